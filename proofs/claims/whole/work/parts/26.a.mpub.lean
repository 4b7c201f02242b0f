set_option maxHeartbeats 4000000 in
set_option maxRecDepth 100000 in
theorem c_X7_add (l : Launch) (D : va_G) (cI cZ cJ : ClassId) (sz : Nat)  (v hf : Nat → Int32) (n len ll : Nat) (pen bf bl th : Int32)  (o7 : Nat) (w6 : va_W) (x : Int32) (hok : kOk v hf n len ll pen bf bl) (hst : kMd cI cZ v hf n len ll pen bf bl th 0 o7 w6) (hx9 : kin x (-10000 : Int32) (nI 10000) = nI 1) (hn6 : n < 60) : Met l yX7_add wsX7_add ({ frames := 8, cells := 0, slots := 0, locals := 330 }) (va_Pc [.ref o7, .int x] (kPre D (tyA cI cZ cJ) sz w6)) (va_Qi (fun (r : Int32) (w2 : va_W) => r = nI n ∧ kMd cI cZ (upd v n x) (upd hf n (nI 0)) (n + 1) len ll pen bf bl (nI 0) 0 o7 w2) (kPost D (tyA cI cZ cJ) (va_A w6 sz) (fun (w2 : va_W) => w2)) (va_A w6 sz)) 0 0 (va_A w6 sz) := by
  refine kMd_open hst ?_
  intro mv mh cn ms me mp mc ml mb md mr mid spr fs se pl co le be en re e9w hv1 hv2 hv3
  clear hst
  subst e9w
  obtain ⟨hn, hbit, hln1, hln2, hll, hlm, hvb, hpb, hbb, hfb⟩ := id hok
  refine kOfW (cc := cX7_add) (maxL := 2) (ret := (some .int)) (fun A => va_Qi (fun (r : Int32) (w2 : va_W) => r = nI n ∧ kMd cI cZ (upd v n x) (upd hf n (nI 0)) (n + 1) len ll pen bf bl (nI 0) 0 o7 w2) (kPost D (tyA cI cZ cJ) (A) (fun (w2 : va_W) => w2)) (A)) (by decide) rfl (Nat.le_of_ble_eq_true rfl) ?_
  intro p_ e_ s m_ below_ meth_ c_ A ls hx hb hr hml hts hown hlocks hin hA hP hK hD hsz hl
  have hS : va_S A s.heap s.heap [] := va_S.rf
  have hl : lv_has ls 2 [(0, .ref o7), (1, .int x)] := hl
  have hinX7 : ∀ w ∈ wsX70, w ∈ wsX7_add := fun w h => List.mem_cons_of_mem _ (List.mem_append_right _ h)
  refine lv_aload_n hx hb dX7_add_0 rfl (lv_at hl 0 rfl) ?_
  refine lv_iconst (v := nI 0) hx hb dX7_add_1 (by decide) ?_
  refine va_put (D := D) (ci := 7) (v := .int (nI 0)) (ty := .int) (C := RX7) (T := TX7) (N := 20) hx hb hts hinX7 tyX7 tyX7_ok nmX7 hown hK hP hD hS 0 rfl rfl 0 (by decide) (hts (.fieldLink RX7 57 "SeriesWatcherModel" "thrown" "I") (by decide +kernel)) (fun _ h9 => h9) rfl (by decide +kernel) rfl rfl (Nat.le_of_ble_eq_true rfl) dX7_add_2 (fun H locs hP hD hS => ?_)
  have hP : va_P D vwCl [(o7, .inr (7, [.int (nI 0), .int (nI n), .ref mv, .ref mh, .int (nI len), .int (nI ll), .int pen, .int bf, .int bl, .int (nI cn), .ref ms, .int mid, .ref me, .ref mp, .ref mc, .ref ml, .ref mb, .ref md, .ref mr, .int spr])), (mv, .inl (cI, 60, .inl v)), (mh, .inl (cZ, 60, .inl hf)), (ms, .inl (cI, 60, .inl fs)), (me, .inl (cI, 12, .inl se)), (mp, .inl (cI, 60, .inl pl)), (mc, .inl (cI, 3721, .inl co)), (ml, .inl (cI, 3721, .inl le)), (mb, .inl (cI, 61, .inl be)), (md, .inl (cI, 61, .inl en)), (mr, .inl (cI, 60, .inl re))] H := hP
  have hD : va_D A [(o7, .inr (7, [.int (nI 0), .int (nI n), .ref mv, .ref mh, .int (nI len), .int (nI ll), .int pen, .int bf, .int bl, .int (nI cn), .ref ms, .int mid, .ref me, .ref mp, .ref mc, .ref ml, .ref mb, .ref md, .ref mr, .int spr])), (mv, .inl (cI, 60, .inl v)), (mh, .inl (cZ, 60, .inl hf)), (ms, .inl (cI, 60, .inl fs)), (me, .inl (cI, 12, .inl se)), (mp, .inl (cI, 60, .inl pl)), (mc, .inl (cI, 3721, .inl co)), (ml, .inl (cI, 3721, .inl le)), (mb, .inl (cI, 61, .inl be)), (md, .inl (cI, 61, .inl en)), (mr, .inl (cI, 60, .inl re))] := hD
  refine lv_iload_n hx hb dX7_add_5 rfl (lv_at hl 1 rfl) ?_
  refine kci (wr := [(o7, .inr (7, [.int (nI 0), .int (nI n), .ref mv, .ref mh, .int (nI len), .int (nI ll), .int pen, .int bf, .int bl, .int (nI cn), .ref ms, .int mid, .ref me, .ref mp, .ref mc, .ref ml, .ref mb, .ref md, .ref mr, .int spr])), (mv, .inl (cI, 60, .inl v)), (mh, .inl (cZ, 60, .inl hf)), (ms, .inl (cI, 60, .inl fs)), (me, .inl (cI, 12, .inl se)), (mp, .inl (cI, 60, .inl pl)), (mc, .inl (cI, 3721, .inl co)), (ml, .inl (cI, 3721, .inl le)), (mb, .inl (cI, 61, .inl be)), (md, .inl (cI, 61, .inl en)), (mr, .inl (cI, 60, .inl re))]) (pre := []) (va_runS (As := [.int x]) (rest := []) ⟨hx, hb, hml, hown, hts⟩ (c_X7_isGiven l D cI cZ cJ H.size x ) (va_cwS 1 hts gX7_add_X7_isGiven rfl rfl rfl (by decide +kernel) ⟨Nat.le_of_ble_eq_true rfl, Nat.le_of_ble_eq_true rfl⟩) (kpreS hK hP hD [] (by decide +kernel) rfl) rfl rfl hl.1 rfl (lv_room (Nat.le_of_ble_eq_true rfl)) dX7_add_6 ⟨Nat.zero_le _, Nat.zero_le _⟩) hP hD hS hA [] [0, 1, 2, 3, 4, 5, 6, 7, 8, 9, 10] rfl rfl (by decide +kernel) (by decide +kernel) (fun r_1 _ H locs hw hP hD hS => ?_)
  have hP : va_P D vwCl [(o7, .inr (7, [.int (nI 0), .int (nI n), .ref mv, .ref mh, .int (nI len), .int (nI ll), .int pen, .int bf, .int bl, .int (nI cn), .ref ms, .int mid, .ref me, .ref mp, .ref mc, .ref ml, .ref mb, .ref md, .ref mr, .int spr])), (mv, .inl (cI, 60, .inl v)), (mh, .inl (cZ, 60, .inl hf)), (ms, .inl (cI, 60, .inl fs)), (me, .inl (cI, 12, .inl se)), (mp, .inl (cI, 60, .inl pl)), (mc, .inl (cI, 3721, .inl co)), (ml, .inl (cI, 3721, .inl le)), (mb, .inl (cI, 61, .inl be)), (md, .inl (cI, 61, .inl en)), (mr, .inl (cI, 60, .inl re))] H := hP
  have hD : va_D A [(o7, .inr (7, [.int (nI 0), .int (nI n), .ref mv, .ref mh, .int (nI len), .int (nI ll), .int pen, .int bf, .int bl, .int (nI cn), .ref ms, .int mid, .ref me, .ref mp, .ref mc, .ref ml, .ref mb, .ref md, .ref mr, .int spr])), (mv, .inl (cI, 60, .inl v)), (mh, .inl (cZ, 60, .inl hf)), (ms, .inl (cI, 60, .inl fs)), (me, .inl (cI, 12, .inl se)), (mp, .inl (cI, 60, .inl pl)), (mc, .inl (cI, 3721, .inl co)), (ml, .inl (cI, 3721, .inl le)), (mb, .inl (cI, 61, .inl be)), (md, .inl (cI, 61, .inl en)), (mr, .inl (cI, 60, .inl re))] := hD
  have hr9 : r_1 = kin x (-10000 : Int32) (nI 10000) := hw
  refine wt_i hr9 ?_
  refine wt_i (y := nI 1) (hx9) ?_
  refine lv_if_ne (tgt := 18) hx hb dX7_add_9 (by decide) (fun c9 => ?_) (fun c9 => ?_)
  · skip
    have c9 := kneq (a := 1) (b := 0) c9 (by omega) (by omega)
    refine lv_aload_n hx hb dX7_add_18 rfl (lv_at hl 0 rfl) ?_
    refine va_get (D := D) (ci := 7) (v := .int (nI n)) (C := RX7) (T := TX7) (N := 20) hx hb hts hinX7 hown hK hP 0 rfl rfl 1 (by decide) (hts (.fieldLink RX7 60 "SeriesWatcherModel" "many" "I") (by decide +kernel)) (fun _ h9 => h9) rfl dX7_add_19 ?_
    refine lv_bipush (v := nI 60) hx hb dX7_add_22 (by decide) ?_
    refine lv_icmp_ne (tgt := 33) hx hb dX7_add_24 (by decide) (fun c24 => ?_) (fun c24 => ?_)
    · skip
      have c24 := kneq (a := n) (b := 60) c24 (by omega) (by omega)
      refine lv_aload_n hx hb dX7_add_33 rfl (lv_at hl 0 rfl) ?_
      refine va_get (D := D) (ci := 7) (v := .ref mv) (C := RX7) (T := TX7) (N := 20) hx hb hts hinX7 hown hK hP 0 rfl rfl 2 (by decide) (hts (.fieldLink RX7 7 "SeriesWatcherModel" "value" "[I") (by decide +kernel)) (fun _ h9 => h9) rfl dX7_add_34 ?_
      refine lv_aload_n hx hb dX7_add_37 rfl (lv_at hl 0 rfl) ?_
      refine va_get (D := D) (ci := 7) (v := .int (nI n)) (C := RX7) (T := TX7) (N := 20) hx hb hts hinX7 hown hK hP 0 rfl rfl 1 (by decide) (hts (.fieldLink RX7 60 "SeriesWatcherModel" "many" "I") (by decide +kernel)) (fun _ h9 => h9) rfl dX7_add_38 ?_
      refine lv_iload_n hx hb dX7_add_41 rfl (lv_at hl 1 rfl) ?_
      refine va_iast (D := D) hx hb hK hP hD hS 1 0 rfl rfl (vp_in_nI (by omega) (by decide)) dX7_add_42 (fun H locs hP hD hS => ?_)
      rw [nI_clamp (n := n) (by omega)] at hP hD
      have hP : va_P D vwCl [(o7, .inr (7, [.int (nI 0), .int (nI n), .ref mv, .ref mh, .int (nI len), .int (nI ll), .int pen, .int bf, .int bl, .int (nI cn), .ref ms, .int mid, .ref me, .ref mp, .ref mc, .ref ml, .ref mb, .ref md, .ref mr, .int spr])), (mv, .inl (cI, 60, .inl (upd v n x))), (mh, .inl (cZ, 60, .inl hf)), (ms, .inl (cI, 60, .inl fs)), (me, .inl (cI, 12, .inl se)), (mp, .inl (cI, 60, .inl pl)), (mc, .inl (cI, 3721, .inl co)), (ml, .inl (cI, 3721, .inl le)), (mb, .inl (cI, 61, .inl be)), (md, .inl (cI, 61, .inl en)), (mr, .inl (cI, 60, .inl re))] H := hP
      have hD : va_D A [(o7, .inr (7, [.int (nI 0), .int (nI n), .ref mv, .ref mh, .int (nI len), .int (nI ll), .int pen, .int bf, .int bl, .int (nI cn), .ref ms, .int mid, .ref me, .ref mp, .ref mc, .ref ml, .ref mb, .ref md, .ref mr, .int spr])), (mv, .inl (cI, 60, .inl (upd v n x))), (mh, .inl (cZ, 60, .inl hf)), (ms, .inl (cI, 60, .inl fs)), (me, .inl (cI, 12, .inl se)), (mp, .inl (cI, 60, .inl pl)), (mc, .inl (cI, 3721, .inl co)), (ml, .inl (cI, 3721, .inl le)), (mb, .inl (cI, 61, .inl be)), (md, .inl (cI, 61, .inl en)), (mr, .inl (cI, 60, .inl re))] := hD
      refine lv_aload_n hx hb dX7_add_43 rfl (lv_at hl 0 rfl) ?_
      refine va_get (D := D) (ci := 7) (v := .ref mh) (C := RX7) (T := TX7) (N := 20) hx hb hts hinX7 hown hK hP 0 rfl rfl 3 (by decide) (hts (.fieldLink RX7 13 "SeriesWatcherModel" "holiday" "[Z") (by decide +kernel)) (fun _ h9 => h9) rfl dX7_add_44 ?_
      refine lv_aload_n hx hb dX7_add_47 rfl (lv_at hl 0 rfl) ?_
      refine va_get (D := D) (ci := 7) (v := .int (nI n)) (C := RX7) (T := TX7) (N := 20) hx hb hts hinX7 hown hK hP 0 rfl rfl 1 (by decide) (hts (.fieldLink RX7 60 "SeriesWatcherModel" "many" "I") (by decide +kernel)) (fun _ h9 => h9) rfl dX7_add_48 ?_
      refine lv_iconst (v := nI 0) hx hb dX7_add_51 (by decide) ?_
      refine va_zast (D := D) hx hb hK hP hD hS 2 1 rfl rfl (vp_in_nI (by omega) (by decide)) dX7_add_52 (fun H locs hP hD hS => ?_)
      rw [nI_clamp (n := n) (by omega), (show vp_nar .boolean (nI 0) = nI 0 from by decide)] at hP hD
      have hP : va_P D vwCl [(o7, .inr (7, [.int (nI 0), .int (nI n), .ref mv, .ref mh, .int (nI len), .int (nI ll), .int pen, .int bf, .int bl, .int (nI cn), .ref ms, .int mid, .ref me, .ref mp, .ref mc, .ref ml, .ref mb, .ref md, .ref mr, .int spr])), (mv, .inl (cI, 60, .inl (upd v n x))), (mh, .inl (cZ, 60, .inl (upd hf n (nI 0)))), (ms, .inl (cI, 60, .inl fs)), (me, .inl (cI, 12, .inl se)), (mp, .inl (cI, 60, .inl pl)), (mc, .inl (cI, 3721, .inl co)), (ml, .inl (cI, 3721, .inl le)), (mb, .inl (cI, 61, .inl be)), (md, .inl (cI, 61, .inl en)), (mr, .inl (cI, 60, .inl re))] H := hP
      have hD : va_D A [(o7, .inr (7, [.int (nI 0), .int (nI n), .ref mv, .ref mh, .int (nI len), .int (nI ll), .int pen, .int bf, .int bl, .int (nI cn), .ref ms, .int mid, .ref me, .ref mp, .ref mc, .ref ml, .ref mb, .ref md, .ref mr, .int spr])), (mv, .inl (cI, 60, .inl (upd v n x))), (mh, .inl (cZ, 60, .inl (upd hf n (nI 0)))), (ms, .inl (cI, 60, .inl fs)), (me, .inl (cI, 12, .inl se)), (mp, .inl (cI, 60, .inl pl)), (mc, .inl (cI, 3721, .inl co)), (ml, .inl (cI, 3721, .inl le)), (mb, .inl (cI, 61, .inl be)), (md, .inl (cI, 61, .inl en)), (mr, .inl (cI, 60, .inl re))] := hD
      refine lv_aload_n hx hb dX7_add_53 rfl (lv_at hl 0 rfl) ?_
      refine lv_dup hx hb dX7_add_54 rfl ?_
      refine va_get (D := D) (ci := 7) (v := .int (nI n)) (C := RX7) (T := TX7) (N := 20) hx hb hts hinX7 hown hK hP 0 rfl rfl 1 (by decide) (hts (.fieldLink RX7 60 "SeriesWatcherModel" "many" "I") (by decide +kernel)) (fun _ h9 => h9) rfl dX7_add_55 ?_
      refine lv_iconst (v := nI 1) hx hb dX7_add_58 (by decide) ?_
      refine lv_iadd hx hb dX7_add_59 ?_
      refine wt_i (nI_add _ _) ?_
      refine va_put (D := D) (ci := 7) (v := .int (nI (n + 1))) (ty := .int) (C := RX7) (T := TX7) (N := 20) hx hb hts hinX7 tyX7 tyX7_ok nmX7 hown hK hP hD hS 0 rfl rfl 1 (by decide) (hts (.fieldLink RX7 60 "SeriesWatcherModel" "many" "I") (by decide +kernel)) (fun _ h9 => h9) rfl (by decide +kernel) rfl rfl (Nat.le_of_ble_eq_true rfl) dX7_add_60 (fun H locs hP hD hS => ?_)
      have hP : va_P D vwCl [(o7, .inr (7, [.int (nI 0), .int (nI (n + 1)), .ref mv, .ref mh, .int (nI len), .int (nI ll), .int pen, .int bf, .int bl, .int (nI cn), .ref ms, .int mid, .ref me, .ref mp, .ref mc, .ref ml, .ref mb, .ref md, .ref mr, .int spr])), (mv, .inl (cI, 60, .inl (upd v n x))), (mh, .inl (cZ, 60, .inl (upd hf n (nI 0)))), (ms, .inl (cI, 60, .inl fs)), (me, .inl (cI, 12, .inl se)), (mp, .inl (cI, 60, .inl pl)), (mc, .inl (cI, 3721, .inl co)), (ml, .inl (cI, 3721, .inl le)), (mb, .inl (cI, 61, .inl be)), (md, .inl (cI, 61, .inl en)), (mr, .inl (cI, 60, .inl re))] H := hP
      have hD : va_D A [(o7, .inr (7, [.int (nI 0), .int (nI (n + 1)), .ref mv, .ref mh, .int (nI len), .int (nI ll), .int pen, .int bf, .int bl, .int (nI cn), .ref ms, .int mid, .ref me, .ref mp, .ref mc, .ref ml, .ref mb, .ref md, .ref mr, .int spr])), (mv, .inl (cI, 60, .inl (upd v n x))), (mh, .inl (cZ, 60, .inl (upd hf n (nI 0)))), (ms, .inl (cI, 60, .inl fs)), (me, .inl (cI, 12, .inl se)), (mp, .inl (cI, 60, .inl pl)), (mc, .inl (cI, 3721, .inl co)), (ml, .inl (cI, 3721, .inl le)), (mb, .inl (cI, 61, .inl be)), (md, .inl (cI, 61, .inl en)), (mr, .inl (cI, 60, .inl re))] := hD
      refine lv_aload_n hx hb dX7_add_63 rfl (lv_at hl 0 rfl) ?_
      refine va_get (D := D) (ci := 7) (v := .int (nI (n + 1))) (C := RX7) (T := TX7) (N := 20) hx hb hts hinX7 hown hK hP 0 rfl rfl 1 (by decide) (hts (.fieldLink RX7 60 "SeriesWatcherModel" "many" "I") (by decide +kernel)) (fun _ h9 => h9) rfl dX7_add_64 ?_
      refine lv_iconst (v := nI 1) hx hb dX7_add_67 (by decide) ?_
      refine lv_isub hx hb dX7_add_68 ?_
      refine wt_i (y := nI n) (by rw [pk_sub (by omega), Nat.add_sub_cancel]) ?_
      exact kri hx hb hr hlocks hP hK hD hS [(o7, .inr (7, [.int (nI 0), .int (nI (n + 1)), .ref mv, .ref mh, .int (nI len), .int (nI ll), .int pen, .int bf, .int bl, .int (nI cn), .ref ms, .int mid, .ref me, .ref mp, .ref mc, .ref ml, .ref mb, .ref md, .ref mr, .int spr])), (mv, .inl (cI, 60, .inl (upd v n x))), (mh, .inl (cZ, 60, .inl (upd hf n (nI 0)))), (ms, .inl (cI, 60, .inl fs)), (me, .inl (cI, 12, .inl se)), (mp, .inl (cI, 60, .inl pl)), (mc, .inl (cI, 3721, .inl co)), (ml, .inl (cI, 3721, .inl le)), (mb, .inl (cI, 61, .inl be)), (md, .inl (cI, 61, .inl en)), (mr, .inl (cI, 60, .inl re))] (⟨rfl, kMd_mk (fun h => absurd h (by decide)) (fun h => absurd h (by decide)) (fun h => absurd h (by decide))⟩) [0, 1, 2, 3, 4, 5, 6, 7, 8, 9, 10] (by decide +kernel) rfl dX7_add_69
    · skip
      have c24 := keq (a := n) (b := 60) c24 (by omega) (by omega)
      omega
  · skip
    have c9 := keq (a := 1) (b := 0) c9 (by omega) (by omega)
    omega

set_option maxHeartbeats 4000000 in
set_option maxRecDepth 100000 in
theorem c_X7_addMany (l : Launch) (D : va_G) (cI cZ cJ : ClassId) (sz : Nat)  (v hf : Nat → Int32) (n len ll : Nat) (pen bf bl th : Int32)  (o7 : Nat) (w6 : va_W) (x : Int32) (t : Nat) (hok : kOk v hf n len ll pen bf bl) (hst : kMd cI cZ v hf n len ll pen bf bl th 0 o7 w6) (hx9 : kin x (-10000 : Int32) (nI 10000) = nI 1) (ht1 : 1 ≤ t) (ht2 : n + t ≤ 60) : Met l yX7_addMany wsX7_addMany ({ frames := 8, cells := 0, slots := 0, locals := 330 }) (va_Pc [.ref o7, .int x, .int (nI t)] (kPre D (tyA cI cZ cJ) sz w6)) (va_Qi (fun (r : Int32) (w2 : va_W) => r = nI (n + t) ∧ kMd cI cZ (kfill v n x t) (kfill hf n (nI 0) t) (n + t) len ll pen bf bl (nI 0) 0 o7 w2) (kPost D (tyA cI cZ cJ) (va_A w6 sz) (fun (w2 : va_W) => w2)) (va_A w6 sz)) 0 0 (va_A w6 sz) := by
  refine kMd_open hst ?_
  intro mv mh cn ms me mp mc ml mb md mr mid spr fs se pl co le be en re e9w hv1 hv2 hv3
  clear hst
  subst e9w
  obtain ⟨hn, hbit, hln1, hln2, hll, hlm, hvb, hpb, hbb, hfb⟩ := id hok
  refine kOfW (cc := cX7_addMany) (maxL := 4) (ret := (some .int)) (fun A => va_Qi (fun (r : Int32) (w2 : va_W) => r = nI (n + t) ∧ kMd cI cZ (kfill v n x t) (kfill hf n (nI 0) t) (n + t) len ll pen bf bl (nI 0) 0 o7 w2) (kPost D (tyA cI cZ cJ) (A) (fun (w2 : va_W) => w2)) (A)) (by decide) rfl (Nat.le_of_ble_eq_true rfl) ?_
  intro p_ e_ s m_ below_ meth_ c_ A ls hx hb hr hml hts hown hlocks hin hA hP hK hD hsz hl
  have hS : va_S A s.heap s.heap [] := va_S.rf
  have hl : lv_has ls 4 [(0, .ref o7), (1, .int x), (2, .int (nI t))] := hl
  have hinX7 : ∀ w ∈ wsX70, w ∈ wsX7_addMany := fun w h => List.mem_cons_of_mem _ (List.mem_append_right _ h)
  refine lv_aload_n hx hb dX7_addMany_0 rfl (lv_at hl 0 rfl) ?_
  refine lv_iconst (v := nI 0) hx hb dX7_addMany_1 (by decide) ?_
  refine va_put (D := D) (ci := 7) (v := .int (nI 0)) (ty := .int) (C := RX7) (T := TX7) (N := 20) hx hb hts hinX7 tyX7 tyX7_ok nmX7 hown hK hP hD hS 0 rfl rfl 0 (by decide) (hts (.fieldLink RX7 57 "SeriesWatcherModel" "thrown" "I") (by decide +kernel)) (fun _ h9 => h9) rfl (by decide +kernel) rfl rfl (Nat.le_of_ble_eq_true rfl) dX7_addMany_2 (fun H locs hP hD hS => ?_)
  have hP : va_P D vwCl [(o7, .inr (7, [.int (nI 0), .int (nI n), .ref mv, .ref mh, .int (nI len), .int (nI ll), .int pen, .int bf, .int bl, .int (nI cn), .ref ms, .int mid, .ref me, .ref mp, .ref mc, .ref ml, .ref mb, .ref md, .ref mr, .int spr])), (mv, .inl (cI, 60, .inl v)), (mh, .inl (cZ, 60, .inl hf)), (ms, .inl (cI, 60, .inl fs)), (me, .inl (cI, 12, .inl se)), (mp, .inl (cI, 60, .inl pl)), (mc, .inl (cI, 3721, .inl co)), (ml, .inl (cI, 3721, .inl le)), (mb, .inl (cI, 61, .inl be)), (md, .inl (cI, 61, .inl en)), (mr, .inl (cI, 60, .inl re))] H := hP
  have hD : va_D A [(o7, .inr (7, [.int (nI 0), .int (nI n), .ref mv, .ref mh, .int (nI len), .int (nI ll), .int pen, .int bf, .int bl, .int (nI cn), .ref ms, .int mid, .ref me, .ref mp, .ref mc, .ref ml, .ref mb, .ref md, .ref mr, .int spr])), (mv, .inl (cI, 60, .inl v)), (mh, .inl (cZ, 60, .inl hf)), (ms, .inl (cI, 60, .inl fs)), (me, .inl (cI, 12, .inl se)), (mp, .inl (cI, 60, .inl pl)), (mc, .inl (cI, 3721, .inl co)), (ml, .inl (cI, 3721, .inl le)), (mb, .inl (cI, 61, .inl be)), (md, .inl (cI, 61, .inl en)), (mr, .inl (cI, 60, .inl re))] := hD
  refine lv_iload_n hx hb dX7_addMany_5 rfl (lv_at hl 1 rfl) ?_
  refine kci (wr := [(o7, .inr (7, [.int (nI 0), .int (nI n), .ref mv, .ref mh, .int (nI len), .int (nI ll), .int pen, .int bf, .int bl, .int (nI cn), .ref ms, .int mid, .ref me, .ref mp, .ref mc, .ref ml, .ref mb, .ref md, .ref mr, .int spr])), (mv, .inl (cI, 60, .inl v)), (mh, .inl (cZ, 60, .inl hf)), (ms, .inl (cI, 60, .inl fs)), (me, .inl (cI, 12, .inl se)), (mp, .inl (cI, 60, .inl pl)), (mc, .inl (cI, 3721, .inl co)), (ml, .inl (cI, 3721, .inl le)), (mb, .inl (cI, 61, .inl be)), (md, .inl (cI, 61, .inl en)), (mr, .inl (cI, 60, .inl re))]) (pre := []) (va_runS (As := [.int x]) (rest := []) ⟨hx, hb, hml, hown, hts⟩ (c_X7_isGiven l D cI cZ cJ H.size x ) (va_cwS 1 hts gX7_addMany_X7_isGiven rfl rfl rfl (by decide +kernel) ⟨Nat.le_of_ble_eq_true rfl, Nat.le_of_ble_eq_true rfl⟩) (kpreS hK hP hD [] (by decide +kernel) rfl) rfl rfl hl.1 rfl (lv_room (Nat.le_of_ble_eq_true rfl)) dX7_addMany_6 ⟨Nat.zero_le _, Nat.zero_le _⟩) hP hD hS hA [] [0, 1, 2, 3, 4, 5, 6, 7, 8, 9, 10] rfl rfl (by decide +kernel) (by decide +kernel) (fun r_1 _ H locs hw hP hD hS => ?_)
  have hP : va_P D vwCl [(o7, .inr (7, [.int (nI 0), .int (nI n), .ref mv, .ref mh, .int (nI len), .int (nI ll), .int pen, .int bf, .int bl, .int (nI cn), .ref ms, .int mid, .ref me, .ref mp, .ref mc, .ref ml, .ref mb, .ref md, .ref mr, .int spr])), (mv, .inl (cI, 60, .inl v)), (mh, .inl (cZ, 60, .inl hf)), (ms, .inl (cI, 60, .inl fs)), (me, .inl (cI, 12, .inl se)), (mp, .inl (cI, 60, .inl pl)), (mc, .inl (cI, 3721, .inl co)), (ml, .inl (cI, 3721, .inl le)), (mb, .inl (cI, 61, .inl be)), (md, .inl (cI, 61, .inl en)), (mr, .inl (cI, 60, .inl re))] H := hP
  have hD : va_D A [(o7, .inr (7, [.int (nI 0), .int (nI n), .ref mv, .ref mh, .int (nI len), .int (nI ll), .int pen, .int bf, .int bl, .int (nI cn), .ref ms, .int mid, .ref me, .ref mp, .ref mc, .ref ml, .ref mb, .ref md, .ref mr, .int spr])), (mv, .inl (cI, 60, .inl v)), (mh, .inl (cZ, 60, .inl hf)), (ms, .inl (cI, 60, .inl fs)), (me, .inl (cI, 12, .inl se)), (mp, .inl (cI, 60, .inl pl)), (mc, .inl (cI, 3721, .inl co)), (ml, .inl (cI, 3721, .inl le)), (mb, .inl (cI, 61, .inl be)), (md, .inl (cI, 61, .inl en)), (mr, .inl (cI, 60, .inl re))] := hD
  have hr9 : r_1 = kin x (-10000 : Int32) (nI 10000) := hw
  refine wt_i hr9 ?_
  refine wt_i (y := nI 1) (hx9) ?_
  refine lv_if_eq (tgt := 22) hx hb dX7_addMany_9 (by decide) (fun c9 => ?_) (fun c9 => ?_)
  · skip
    have c9 := keq (a := 1) (b := 0) c9 (by omega) (by omega)
    omega
  · skip
    have c9 := kneq (a := 1) (b := 0) c9 (by omega) (by omega)
    refine lv_iload_n hx hb dX7_addMany_12 rfl (lv_at hl 2 rfl) ?_
    refine lv_iconst (v := nI 1) hx hb dX7_addMany_13 (by decide) ?_
    refine lv_bipush (v := nI 60) hx hb dX7_addMany_14 (by decide) ?_
    refine kci (wr := [(o7, .inr (7, [.int (nI 0), .int (nI n), .ref mv, .ref mh, .int (nI len), .int (nI ll), .int pen, .int bf, .int bl, .int (nI cn), .ref ms, .int mid, .ref me, .ref mp, .ref mc, .ref ml, .ref mb, .ref md, .ref mr, .int spr])), (mv, .inl (cI, 60, .inl v)), (mh, .inl (cZ, 60, .inl hf)), (ms, .inl (cI, 60, .inl fs)), (me, .inl (cI, 12, .inl se)), (mp, .inl (cI, 60, .inl pl)), (mc, .inl (cI, 3721, .inl co)), (ml, .inl (cI, 3721, .inl le)), (mb, .inl (cI, 61, .inl be)), (md, .inl (cI, 61, .inl en)), (mr, .inl (cI, 60, .inl re))]) (pre := []) (va_runS (As := [.int (nI t), .int (nI 1), .int (nI 60)]) (rest := []) ⟨hx, hb, hml, hown, hts⟩ (c_X7_in l D cI cZ cJ H.size (nI t) (nI 1) (nI 60) ) (va_cwS 3 hts gX7_addMany_X7_in rfl rfl rfl (by decide +kernel) ⟨Nat.le_of_ble_eq_true rfl, Nat.le_of_ble_eq_true rfl⟩) (kpreS hK hP hD [] (by decide +kernel) rfl) rfl rfl hl.1 rfl (lv_room (Nat.le_of_ble_eq_true rfl)) dX7_addMany_16 ⟨Nat.zero_le _, Nat.zero_le _⟩) hP hD hS hA [] [0, 1, 2, 3, 4, 5, 6, 7, 8, 9, 10] rfl rfl (by decide +kernel) (by decide +kernel) (fun r_3 _ H locs hw hP hD hS => ?_)
    have hP : va_P D vwCl [(o7, .inr (7, [.int (nI 0), .int (nI n), .ref mv, .ref mh, .int (nI len), .int (nI ll), .int pen, .int bf, .int bl, .int (nI cn), .ref ms, .int mid, .ref me, .ref mp, .ref mc, .ref ml, .ref mb, .ref md, .ref mr, .int spr])), (mv, .inl (cI, 60, .inl v)), (mh, .inl (cZ, 60, .inl hf)), (ms, .inl (cI, 60, .inl fs)), (me, .inl (cI, 12, .inl se)), (mp, .inl (cI, 60, .inl pl)), (mc, .inl (cI, 3721, .inl co)), (ml, .inl (cI, 3721, .inl le)), (mb, .inl (cI, 61, .inl be)), (md, .inl (cI, 61, .inl en)), (mr, .inl (cI, 60, .inl re))] H := hP
    have hD : va_D A [(o7, .inr (7, [.int (nI 0), .int (nI n), .ref mv, .ref mh, .int (nI len), .int (nI ll), .int pen, .int bf, .int bl, .int (nI cn), .ref ms, .int mid, .ref me, .ref mp, .ref mc, .ref ml, .ref mb, .ref md, .ref mr, .int spr])), (mv, .inl (cI, 60, .inl v)), (mh, .inl (cZ, 60, .inl hf)), (ms, .inl (cI, 60, .inl fs)), (me, .inl (cI, 12, .inl se)), (mp, .inl (cI, 60, .inl pl)), (mc, .inl (cI, 3721, .inl co)), (ml, .inl (cI, 3721, .inl le)), (mb, .inl (cI, 61, .inl be)), (md, .inl (cI, 61, .inl en)), (mr, .inl (cI, 60, .inl re))] := hD
    have hr9 : r_3 = kin (nI t) (nI 1) (nI 60) := hw
    refine wt_i hr9 ?_
    refine wt_i (y := nI 1) (kin_le ht1 (by omega) (by omega)) ?_
    refine lv_if_ne (tgt := 28) hx hb dX7_addMany_19 (by decide) (fun c19 => ?_) (fun c19 => ?_)
    · skip
      have c19 := kneq (a := 1) (b := 0) c19 (by omega) (by omega)
      refine lv_aload_n hx hb dX7_addMany_28 rfl (lv_at hl 0 rfl) ?_
      refine va_get (D := D) (ci := 7) (v := .int (nI n)) (C := RX7) (T := TX7) (N := 20) hx hb hts hinX7 hown hK hP 0 rfl rfl 1 (by decide) (hts (.fieldLink RX7 60 "SeriesWatcherModel" "many" "I") (by decide +kernel)) (fun _ h9 => h9) rfl dX7_addMany_29 ?_
      refine lv_iload_n hx hb dX7_addMany_32 rfl (lv_at hl 2 rfl) ?_
      refine lv_iadd hx hb dX7_addMany_33 ?_
      refine wt_i (nI_add _ _) ?_
      refine lv_bipush (v := nI 60) hx hb dX7_addMany_34 (by decide) ?_
      refine lv_icmp_le (tgt := 45) hx hb dX7_addMany_36 (by decide) (fun c36 => ?_) (fun c36 => ?_)
      · skip
        have c36 := kle (a := (n + t)) (b := 60) c36 (by omega) (by omega)
        refine lv_iconst (v := nI 0) hx hb dX7_addMany_45 (by decide) ?_
        refine lv_istore_n (lv' := [(3, .int (nI 0)), (0, .ref o7), (1, .int x), (2, .int (nI t))]) hx hb dX7_addMany_46 rfl hl (by decide) rfl (fun ls hl => ?_)
        refine wl_loop (fun (d9 : Nat) (H : Heap) (locs : List Loc) (ls : Array Slot) => ∃ (i : Nat) (g : Nat → Int32) (gh : Nat → Int32), d9 = t - i ∧ (i ≤ t) ∧ (g = kfill v n x i) ∧ (gh = kfill hf n (nI 0) i) ∧ va_P D vwCl [(o7, .inr (7, [.int (nI 0), .int (nI (n + i)), .ref mv, .ref mh, .int (nI len), .int (nI ll), .int pen, .int bf, .int bl, .int (nI cn), .ref ms, .int mid, .ref me, .ref mp, .ref mc, .ref ml, .ref mb, .ref md, .ref mr, .int spr])), (mv, .inl (cI, 60, .inl g)), (mh, .inl (cZ, 60, .inl gh)), (ms, .inl (cI, 60, .inl fs)), (me, .inl (cI, 12, .inl se)), (mp, .inl (cI, 60, .inl pl)), (mc, .inl (cI, 3721, .inl co)), (ml, .inl (cI, 3721, .inl le)), (mb, .inl (cI, 61, .inl be)), (md, .inl (cI, 61, .inl en)), (mr, .inl (cI, 60, .inl re))] H ∧ va_D A [(o7, .inr (7, [.int (nI 0), .int (nI (n + i)), .ref mv, .ref mh, .int (nI len), .int (nI ll), .int pen, .int bf, .int bl, .int (nI cn), .ref ms, .int mid, .ref me, .ref mp, .ref mc, .ref ml, .ref mb, .ref md, .ref mr, .int spr])), (mv, .inl (cI, 60, .inl g)), (mh, .inl (cZ, 60, .inl gh)), (ms, .inl (cI, 60, .inl fs)), (me, .inl (cI, 12, .inl se)), (mp, .inl (cI, 60, .inl pl)), (mc, .inl (cI, 3721, .inl co)), (ml, .inl (cI, 3721, .inl le)), (mb, .inl (cI, 61, .inl be)), (md, .inl (cI, 61, .inl en)), (mr, .inl (cI, 60, .inl re))] ∧ va_S A s.heap H locs ∧ lv_has ls 4 [(3, .int (nI i)), (0, .ref o7), (1, .int x), (2, .int (nI t))]) ?_ _ ⟨0, _, _, rfl, Nat.zero_le _, (kfill_0 _ _ _).symm, (kfill_0 _ _ _).symm, hP, hD, hS, lv_sub hl [0, 1, 2, 3] rfl⟩
        rintro d_6 H locs ls ⟨i, g, gh, hd_7, hi, eg, egh, hP, hD, hS, hl⟩ ih_5
        refine lv_iload_n hx hb dX7_addMany_47 rfl (lv_at hl 0 rfl) ?_
        refine lv_iload_n hx hb dX7_addMany_48 rfl (lv_at hl 3 rfl) ?_
        refine lv_icmp_ge (tgt := 88) hx hb dX7_addMany_49 (by decide) (fun c49 => ?_) (fun c49 => ?_)
        · skip
          have c49 := kle (a := t) (b := i) c49 (by omega) (by omega)
          have ei : i = t := by omega
          rw [ei] at eg egh hP hD
          rw [eg, egh] at hP hD
          refine lv_aload_n hx hb dX7_addMany_88 rfl (lv_at hl 1 rfl) ?_
          refine va_get (D := D) (ci := 7) (v := .int (nI (n + t))) (C := RX7) (T := TX7) (N := 20) hx hb hts hinX7 hown hK hP 0 rfl rfl 1 (by decide) (hts (.fieldLink RX7 60 "SeriesWatcherModel" "many" "I") (by decide +kernel)) (fun _ h9 => h9) rfl dX7_addMany_89 ?_
          exact kri hx hb hr hlocks hP hK hD hS [(o7, .inr (7, [.int (nI 0), .int (nI (n + t)), .ref mv, .ref mh, .int (nI len), .int (nI ll), .int pen, .int bf, .int bl, .int (nI cn), .ref ms, .int mid, .ref me, .ref mp, .ref mc, .ref ml, .ref mb, .ref md, .ref mr, .int spr])), (mv, .inl (cI, 60, .inl (kfill v n x t))), (mh, .inl (cZ, 60, .inl (kfill hf n (nI 0) t))), (ms, .inl (cI, 60, .inl fs)), (me, .inl (cI, 12, .inl se)), (mp, .inl (cI, 60, .inl pl)), (mc, .inl (cI, 3721, .inl co)), (ml, .inl (cI, 3721, .inl le)), (mb, .inl (cI, 61, .inl be)), (md, .inl (cI, 61, .inl en)), (mr, .inl (cI, 60, .inl re))] (⟨rfl, kMd_mk (fun h => absurd h (by decide)) (fun h => absurd h (by decide)) (fun h => absurd h (by decide))⟩) [0, 1, 2, 3, 4, 5, 6, 7, 8, 9, 10] (by decide +kernel) rfl dX7_addMany_92
        · skip
          have c49 := knle (a := t) (b := i) c49 (by omega) (by omega)
          refine lv_aload_n hx hb dX7_addMany_52 rfl (lv_at hl 1 rfl) ?_
          refine va_get (D := D) (ci := 7) (v := .ref mv) (C := RX7) (T := TX7) (N := 20) hx hb hts hinX7 hown hK hP 0 rfl rfl 2 (by decide) (hts (.fieldLink RX7 7 "SeriesWatcherModel" "value" "[I") (by decide +kernel)) (fun _ h9 => h9) rfl dX7_addMany_53 ?_
          refine lv_aload_n hx hb dX7_addMany_56 rfl (lv_at hl 1 rfl) ?_
          refine va_get (D := D) (ci := 7) (v := .int (nI (n + i))) (C := RX7) (T := TX7) (N := 20) hx hb hts hinX7 hown hK hP 0 rfl rfl 1 (by decide) (hts (.fieldLink RX7 60 "SeriesWatcherModel" "many" "I") (by decide +kernel)) (fun _ h9 => h9) rfl dX7_addMany_57 ?_
          refine lv_iload_n hx hb dX7_addMany_60 rfl (lv_at hl 2 rfl) ?_
          refine va_iast (D := D) hx hb hK hP hD hS 1 0 rfl rfl (vp_in_nI (by omega) (by decide)) dX7_addMany_61 (fun H locs hP hD hS => ?_)
          rw [nI_clamp (n := (n + i)) (by omega)] at hP hD
          have hP : va_P D vwCl [(o7, .inr (7, [.int (nI 0), .int (nI (n + i)), .ref mv, .ref mh, .int (nI len), .int (nI ll), .int pen, .int bf, .int bl, .int (nI cn), .ref ms, .int mid, .ref me, .ref mp, .ref mc, .ref ml, .ref mb, .ref md, .ref mr, .int spr])), (mv, .inl (cI, 60, .inl (upd g (n + i) x))), (mh, .inl (cZ, 60, .inl gh)), (ms, .inl (cI, 60, .inl fs)), (me, .inl (cI, 12, .inl se)), (mp, .inl (cI, 60, .inl pl)), (mc, .inl (cI, 3721, .inl co)), (ml, .inl (cI, 3721, .inl le)), (mb, .inl (cI, 61, .inl be)), (md, .inl (cI, 61, .inl en)), (mr, .inl (cI, 60, .inl re))] H := hP
          have hD : va_D A [(o7, .inr (7, [.int (nI 0), .int (nI (n + i)), .ref mv, .ref mh, .int (nI len), .int (nI ll), .int pen, .int bf, .int bl, .int (nI cn), .ref ms, .int mid, .ref me, .ref mp, .ref mc, .ref ml, .ref mb, .ref md, .ref mr, .int spr])), (mv, .inl (cI, 60, .inl (upd g (n + i) x))), (mh, .inl (cZ, 60, .inl gh)), (ms, .inl (cI, 60, .inl fs)), (me, .inl (cI, 12, .inl se)), (mp, .inl (cI, 60, .inl pl)), (mc, .inl (cI, 3721, .inl co)), (ml, .inl (cI, 3721, .inl le)), (mb, .inl (cI, 61, .inl be)), (md, .inl (cI, 61, .inl en)), (mr, .inl (cI, 60, .inl re))] := hD
          refine lv_aload_n hx hb dX7_addMany_62 rfl (lv_at hl 1 rfl) ?_
          refine va_get (D := D) (ci := 7) (v := .ref mh) (C := RX7) (T := TX7) (N := 20) hx hb hts hinX7 hown hK hP 0 rfl rfl 3 (by decide) (hts (.fieldLink RX7 13 "SeriesWatcherModel" "holiday" "[Z") (by decide +kernel)) (fun _ h9 => h9) rfl dX7_addMany_63 ?_
          refine lv_aload_n hx hb dX7_addMany_66 rfl (lv_at hl 1 rfl) ?_
          refine va_get (D := D) (ci := 7) (v := .int (nI (n + i))) (C := RX7) (T := TX7) (N := 20) hx hb hts hinX7 hown hK hP 0 rfl rfl 1 (by decide) (hts (.fieldLink RX7 60 "SeriesWatcherModel" "many" "I") (by decide +kernel)) (fun _ h9 => h9) rfl dX7_addMany_67 ?_
          refine lv_iconst (v := nI 0) hx hb dX7_addMany_70 (by decide) ?_
          refine va_zast (D := D) hx hb hK hP hD hS 2 1 rfl rfl (vp_in_nI (by omega) (by decide)) dX7_addMany_71 (fun H locs hP hD hS => ?_)
          rw [nI_clamp (n := (n + i)) (by omega), (show vp_nar .boolean (nI 0) = nI 0 from by decide)] at hP hD
          have hP : va_P D vwCl [(o7, .inr (7, [.int (nI 0), .int (nI (n + i)), .ref mv, .ref mh, .int (nI len), .int (nI ll), .int pen, .int bf, .int bl, .int (nI cn), .ref ms, .int mid, .ref me, .ref mp, .ref mc, .ref ml, .ref mb, .ref md, .ref mr, .int spr])), (mv, .inl (cI, 60, .inl (upd g (n + i) x))), (mh, .inl (cZ, 60, .inl (upd gh (n + i) (nI 0)))), (ms, .inl (cI, 60, .inl fs)), (me, .inl (cI, 12, .inl se)), (mp, .inl (cI, 60, .inl pl)), (mc, .inl (cI, 3721, .inl co)), (ml, .inl (cI, 3721, .inl le)), (mb, .inl (cI, 61, .inl be)), (md, .inl (cI, 61, .inl en)), (mr, .inl (cI, 60, .inl re))] H := hP
          have hD : va_D A [(o7, .inr (7, [.int (nI 0), .int (nI (n + i)), .ref mv, .ref mh, .int (nI len), .int (nI ll), .int pen, .int bf, .int bl, .int (nI cn), .ref ms, .int mid, .ref me, .ref mp, .ref mc, .ref ml, .ref mb, .ref md, .ref mr, .int spr])), (mv, .inl (cI, 60, .inl (upd g (n + i) x))), (mh, .inl (cZ, 60, .inl (upd gh (n + i) (nI 0)))), (ms, .inl (cI, 60, .inl fs)), (me, .inl (cI, 12, .inl se)), (mp, .inl (cI, 60, .inl pl)), (mc, .inl (cI, 3721, .inl co)), (ml, .inl (cI, 3721, .inl le)), (mb, .inl (cI, 61, .inl be)), (md, .inl (cI, 61, .inl en)), (mr, .inl (cI, 60, .inl re))] := hD
          refine lv_aload_n hx hb dX7_addMany_72 rfl (lv_at hl 1 rfl) ?_
          refine lv_dup hx hb dX7_addMany_73 rfl ?_
          refine va_get (D := D) (ci := 7) (v := .int (nI (n + i))) (C := RX7) (T := TX7) (N := 20) hx hb hts hinX7 hown hK hP 0 rfl rfl 1 (by decide) (hts (.fieldLink RX7 60 "SeriesWatcherModel" "many" "I") (by decide +kernel)) (fun _ h9 => h9) rfl dX7_addMany_74 ?_
          refine lv_iconst (v := nI 1) hx hb dX7_addMany_77 (by decide) ?_
          refine lv_iadd hx hb dX7_addMany_78 ?_
          refine wt_i (nI_add _ _) ?_
          refine va_put (D := D) (ci := 7) (v := .int (nI ((n + i) + 1))) (ty := .int) (C := RX7) (T := TX7) (N := 20) hx hb hts hinX7 tyX7 tyX7_ok nmX7 hown hK hP hD hS 0 rfl rfl 1 (by decide) (hts (.fieldLink RX7 60 "SeriesWatcherModel" "many" "I") (by decide +kernel)) (fun _ h9 => h9) rfl (by decide +kernel) rfl rfl (Nat.le_of_ble_eq_true rfl) dX7_addMany_79 (fun H locs hP hD hS => ?_)
          have hP : va_P D vwCl [(o7, .inr (7, [.int (nI 0), .int (nI ((n + i) + 1)), .ref mv, .ref mh, .int (nI len), .int (nI ll), .int pen, .int bf, .int bl, .int (nI cn), .ref ms, .int mid, .ref me, .ref mp, .ref mc, .ref ml, .ref mb, .ref md, .ref mr, .int spr])), (mv, .inl (cI, 60, .inl (upd g (n + i) x))), (mh, .inl (cZ, 60, .inl (upd gh (n + i) (nI 0)))), (ms, .inl (cI, 60, .inl fs)), (me, .inl (cI, 12, .inl se)), (mp, .inl (cI, 60, .inl pl)), (mc, .inl (cI, 3721, .inl co)), (ml, .inl (cI, 3721, .inl le)), (mb, .inl (cI, 61, .inl be)), (md, .inl (cI, 61, .inl en)), (mr, .inl (cI, 60, .inl re))] H := hP
          have hD : va_D A [(o7, .inr (7, [.int (nI 0), .int (nI ((n + i) + 1)), .ref mv, .ref mh, .int (nI len), .int (nI ll), .int pen, .int bf, .int bl, .int (nI cn), .ref ms, .int mid, .ref me, .ref mp, .ref mc, .ref ml, .ref mb, .ref md, .ref mr, .int spr])), (mv, .inl (cI, 60, .inl (upd g (n + i) x))), (mh, .inl (cZ, 60, .inl (upd gh (n + i) (nI 0)))), (ms, .inl (cI, 60, .inl fs)), (me, .inl (cI, 12, .inl se)), (mp, .inl (cI, 60, .inl pl)), (mc, .inl (cI, 3721, .inl co)), (ml, .inl (cI, 3721, .inl le)), (mb, .inl (cI, 61, .inl be)), (md, .inl (cI, 61, .inl en)), (mr, .inl (cI, 60, .inl re))] := hD
          refine lv_iinc (v := nI (i + 1)) (lv' := [(3, .int (nI (i + 1))), (0, .ref o7), (1, .int x), (2, .int (nI t))]) hx hb dX7_addMany_82 hl (k := 0) rfl (by exact nI_add _ 1) (by decide) rfl (fun ls hl => ?_)
          refine lv_goto (tgt := 47) hx hb dX7_addMany_85 (by decide) ?_
          exact ih_5 _ (by omega) _ _ _ ⟨(i + 1), _, _, rfl, by omega, by rw [eg, kfill_s], by rw [egh, kfill_s], hP, hD, hS, lv_sub hl [0, 1, 2, 3] rfl⟩
      · skip
        have c36 := knle (a := (n + t)) (b := 60) c36 (by omega) (by omega)
        omega
    · skip
      have c19 := keq (a := 1) (b := 0) c19 (by omega) (by omega)
      omega

set_option maxHeartbeats 4000000 in
set_option maxRecDepth 100000 in
theorem c_X7_correct (l : Launch) (D : va_G) (cI cZ cJ : ClassId) (sz : Nat)  (v hf : Nat → Int32) (n len ll : Nat) (pen bf bl th : Int32)  (o7 : Nat) (w6 : va_W) (k : Nat) (x : Int32) (hok : kOk v hf n len ll pen bf bl) (hst : kMd cI cZ v hf n len ll pen bf bl th 0 o7 w6) (hx9 : kin x (-10000 : Int32) (nI 10000) = nI 1) (hk : k < n) : Met l yX7_correct wsX7_correct ({ frames := 8, cells := 0, slots := 0, locals := 330 }) (va_Pc [.ref o7, .int (nI k), .int x] (kPre D (tyA cI cZ cJ) sz w6)) (va_Qi (fun (r : Int32) (w2 : va_W) => r = v k ∧ kMd cI cZ (upd v k x) hf n len ll pen bf bl (nI 0) 0 o7 w2) (kPost D (tyA cI cZ cJ) (va_A w6 sz) (fun (w2 : va_W) => w2)) (va_A w6 sz)) 0 0 (va_A w6 sz) := by
  refine kMd_open hst ?_
  intro mv mh cn ms me mp mc ml mb md mr mid spr fs se pl co le be en re e9w hv1 hv2 hv3
  clear hst
  subst e9w
  obtain ⟨hn, hbit, hln1, hln2, hll, hlm, hvb, hpb, hbb, hfb⟩ := id hok
  refine kOfW (cc := cX7_correct) (maxL := 4) (ret := (some .int)) (fun A => va_Qi (fun (r : Int32) (w2 : va_W) => r = v k ∧ kMd cI cZ (upd v k x) hf n len ll pen bf bl (nI 0) 0 o7 w2) (kPost D (tyA cI cZ cJ) (A) (fun (w2 : va_W) => w2)) (A)) (by decide) rfl (Nat.le_of_ble_eq_true rfl) ?_
  intro p_ e_ s m_ below_ meth_ c_ A ls hx hb hr hml hts hown hlocks hin hA hP hK hD hsz hl
  have hS : va_S A s.heap s.heap [] := va_S.rf
  have hl : lv_has ls 4 [(0, .ref o7), (1, .int (nI k)), (2, .int x)] := hl
  have hinX7 : ∀ w ∈ wsX70, w ∈ wsX7_correct := fun w h => List.mem_cons_of_mem _ (List.mem_append_right _ h)
  refine lv_aload_n hx hb dX7_correct_0 rfl (lv_at hl 0 rfl) ?_
  refine lv_iconst (v := nI 0) hx hb dX7_correct_1 (by decide) ?_
  refine va_put (D := D) (ci := 7) (v := .int (nI 0)) (ty := .int) (C := RX7) (T := TX7) (N := 20) hx hb hts hinX7 tyX7 tyX7_ok nmX7 hown hK hP hD hS 0 rfl rfl 0 (by decide) (hts (.fieldLink RX7 57 "SeriesWatcherModel" "thrown" "I") (by decide +kernel)) (fun _ h9 => h9) rfl (by decide +kernel) rfl rfl (Nat.le_of_ble_eq_true rfl) dX7_correct_2 (fun H locs hP hD hS => ?_)
  have hP : va_P D vwCl [(o7, .inr (7, [.int (nI 0), .int (nI n), .ref mv, .ref mh, .int (nI len), .int (nI ll), .int pen, .int bf, .int bl, .int (nI cn), .ref ms, .int mid, .ref me, .ref mp, .ref mc, .ref ml, .ref mb, .ref md, .ref mr, .int spr])), (mv, .inl (cI, 60, .inl v)), (mh, .inl (cZ, 60, .inl hf)), (ms, .inl (cI, 60, .inl fs)), (me, .inl (cI, 12, .inl se)), (mp, .inl (cI, 60, .inl pl)), (mc, .inl (cI, 3721, .inl co)), (ml, .inl (cI, 3721, .inl le)), (mb, .inl (cI, 61, .inl be)), (md, .inl (cI, 61, .inl en)), (mr, .inl (cI, 60, .inl re))] H := hP
  have hD : va_D A [(o7, .inr (7, [.int (nI 0), .int (nI n), .ref mv, .ref mh, .int (nI len), .int (nI ll), .int pen, .int bf, .int bl, .int (nI cn), .ref ms, .int mid, .ref me, .ref mp, .ref mc, .ref ml, .ref mb, .ref md, .ref mr, .int spr])), (mv, .inl (cI, 60, .inl v)), (mh, .inl (cZ, 60, .inl hf)), (ms, .inl (cI, 60, .inl fs)), (me, .inl (cI, 12, .inl se)), (mp, .inl (cI, 60, .inl pl)), (mc, .inl (cI, 3721, .inl co)), (ml, .inl (cI, 3721, .inl le)), (mb, .inl (cI, 61, .inl be)), (md, .inl (cI, 61, .inl en)), (mr, .inl (cI, 60, .inl re))] := hD
  refine lv_aload_n hx hb dX7_correct_5 rfl (lv_at hl 0 rfl) ?_
  refine lv_iload_n hx hb dX7_correct_6 rfl (lv_at hl 1 rfl) ?_
  refine kci (wr := [(mv, .inl (cI, 60, .inl v)), (mh, .inl (cZ, 60, .inl hf)), (ms, .inl (cI, 60, .inl fs)), (me, .inl (cI, 12, .inl se)), (mp, .inl (cI, 60, .inl pl)), (mc, .inl (cI, 3721, .inl co)), (ml, .inl (cI, 3721, .inl le)), (mb, .inl (cI, 61, .inl be)), (md, .inl (cI, 61, .inl en)), (mr, .inl (cI, 60, .inl re))]) (pre := [(o7, .inr (7, [.int (nI 0), .int (nI n), .ref mv, .ref mh, .int (nI len), .int (nI ll), .int pen, .int bf, .int bl, .int (nI cn), .ref ms, .int mid, .ref me, .ref mp, .ref mc, .ref ml, .ref mb, .ref md, .ref mr, .int spr]))]) (va_runV (As := [.int (nI k)]) (rest := []) ⟨hx, hb, hml, hown, hts⟩ (c_X7_isValue l D cI cZ cJ H.size o7 (nI 0) n mv mh len ll pen bf bl cn ms mid me mp mc ml mb md mr spr (nI k) ) (cwV 1 hts gX7_correct_X7_isValue rfl rfl rfl (by decide +kernel) ⟨Nat.le_of_ble_eq_true rfl, Nat.le_of_ble_eq_true rfl⟩) (kpreV hK hP hD (ci := 7) (q0 := 0) rfl rfl [0] (by decide +kernel) rfl) rfl rfl hl.1 rfl (lv_room (Nat.le_of_ble_eq_true rfl)) dX7_correct_7 ⟨Nat.zero_le _, Nat.zero_le _⟩) hP hD hS hA [0] [1, 2, 3, 4, 5, 6, 7, 8, 9, 10] rfl rfl (by decide +kernel) (by decide +kernel) (fun r_1 _ H locs hw hP hD hS => ?_)
  have hP : va_P D vwCl [(mv, .inl (cI, 60, .inl v)), (mh, .inl (cZ, 60, .inl hf)), (ms, .inl (cI, 60, .inl fs)), (me, .inl (cI, 12, .inl se)), (mp, .inl (cI, 60, .inl pl)), (mc, .inl (cI, 3721, .inl co)), (ml, .inl (cI, 3721, .inl le)), (mb, .inl (cI, 61, .inl be)), (md, .inl (cI, 61, .inl en)), (mr, .inl (cI, 60, .inl re)), (o7, .inr (7, [.int (nI 0), .int (nI n), .ref mv, .ref mh, .int (nI len), .int (nI ll), .int pen, .int bf, .int bl, .int (nI cn), .ref ms, .int mid, .ref me, .ref mp, .ref mc, .ref ml, .ref mb, .ref md, .ref mr, .int spr]))] H := hP
  have hD : va_D A [(mv, .inl (cI, 60, .inl v)), (mh, .inl (cZ, 60, .inl hf)), (ms, .inl (cI, 60, .inl fs)), (me, .inl (cI, 12, .inl se)), (mp, .inl (cI, 60, .inl pl)), (mc, .inl (cI, 3721, .inl co)), (ml, .inl (cI, 3721, .inl le)), (mb, .inl (cI, 61, .inl be)), (md, .inl (cI, 61, .inl en)), (mr, .inl (cI, 60, .inl re)), (o7, .inr (7, [.int (nI 0), .int (nI n), .ref mv, .ref mh, .int (nI len), .int (nI ll), .int pen, .int bf, .int bl, .int (nI cn), .ref ms, .int mid, .ref me, .ref mp, .ref mc, .ref ml, .ref mb, .ref md, .ref mr, .int spr]))] := hD
  have hr9 : r_1 = kin (nI k) (nI 0) (nI n - nI 1) := hw
  refine wt_i hr9 ?_
  refine wt_i (y := nI 1) (kin_ok hn hk) ?_
  refine lv_if_ne (tgt := 19) hx hb dX7_correct_10 (by decide) (fun c10 => ?_) (fun c10 => ?_)
  · skip
    have c10 := kneq (a := 1) (b := 0) c10 (by omega) (by omega)
    refine lv_iload_n hx hb dX7_correct_19 rfl (lv_at hl 2 rfl) ?_
    refine kci (wr := [(mv, .inl (cI, 60, .inl v)), (mh, .inl (cZ, 60, .inl hf)), (ms, .inl (cI, 60, .inl fs)), (me, .inl (cI, 12, .inl se)), (mp, .inl (cI, 60, .inl pl)), (mc, .inl (cI, 3721, .inl co)), (ml, .inl (cI, 3721, .inl le)), (mb, .inl (cI, 61, .inl be)), (md, .inl (cI, 61, .inl en)), (mr, .inl (cI, 60, .inl re)), (o7, .inr (7, [.int (nI 0), .int (nI n), .ref mv, .ref mh, .int (nI len), .int (nI ll), .int pen, .int bf, .int bl, .int (nI cn), .ref ms, .int mid, .ref me, .ref mp, .ref mc, .ref ml, .ref mb, .ref md, .ref mr, .int spr]))]) (pre := []) (va_runS (As := [.int x]) (rest := []) ⟨hx, hb, hml, hown, hts⟩ (c_X7_isGiven l D cI cZ cJ H.size x ) (va_cwS 1 hts gX7_correct_X7_isGiven rfl rfl rfl (by decide +kernel) ⟨Nat.le_of_ble_eq_true rfl, Nat.le_of_ble_eq_true rfl⟩) (kpreS hK hP hD [] (by decide +kernel) rfl) rfl rfl hl.1 rfl (lv_room (Nat.le_of_ble_eq_true rfl)) dX7_correct_20 ⟨Nat.zero_le _, Nat.zero_le _⟩) hP hD hS hA [] [0, 1, 2, 3, 4, 5, 6, 7, 8, 9, 10] rfl rfl (by decide +kernel) (by decide +kernel) (fun r_3 _ H locs hw hP hD hS => ?_)
    have hP : va_P D vwCl [(mv, .inl (cI, 60, .inl v)), (mh, .inl (cZ, 60, .inl hf)), (ms, .inl (cI, 60, .inl fs)), (me, .inl (cI, 12, .inl se)), (mp, .inl (cI, 60, .inl pl)), (mc, .inl (cI, 3721, .inl co)), (ml, .inl (cI, 3721, .inl le)), (mb, .inl (cI, 61, .inl be)), (md, .inl (cI, 61, .inl en)), (mr, .inl (cI, 60, .inl re)), (o7, .inr (7, [.int (nI 0), .int (nI n), .ref mv, .ref mh, .int (nI len), .int (nI ll), .int pen, .int bf, .int bl, .int (nI cn), .ref ms, .int mid, .ref me, .ref mp, .ref mc, .ref ml, .ref mb, .ref md, .ref mr, .int spr]))] H := hP
    have hD : va_D A [(mv, .inl (cI, 60, .inl v)), (mh, .inl (cZ, 60, .inl hf)), (ms, .inl (cI, 60, .inl fs)), (me, .inl (cI, 12, .inl se)), (mp, .inl (cI, 60, .inl pl)), (mc, .inl (cI, 3721, .inl co)), (ml, .inl (cI, 3721, .inl le)), (mb, .inl (cI, 61, .inl be)), (md, .inl (cI, 61, .inl en)), (mr, .inl (cI, 60, .inl re)), (o7, .inr (7, [.int (nI 0), .int (nI n), .ref mv, .ref mh, .int (nI len), .int (nI ll), .int pen, .int bf, .int bl, .int (nI cn), .ref ms, .int mid, .ref me, .ref mp, .ref mc, .ref ml, .ref mb, .ref md, .ref mr, .int spr]))] := hD
    have hr9 : r_3 = kin x (-10000 : Int32) (nI 10000) := hw
    refine wt_i hr9 ?_
    refine wt_i (y := nI 1) (hx9) ?_
    refine lv_if_ne (tgt := 32) hx hb dX7_correct_23 (by decide) (fun c23 => ?_) (fun c23 => ?_)
    · skip
      have c23 := kneq (a := 1) (b := 0) c23 (by omega) (by omega)
      refine lv_aload_n hx hb dX7_correct_32 rfl (lv_at hl 0 rfl) ?_
      refine va_get (D := D) (ci := 7) (v := .ref mv) (C := RX7) (T := TX7) (N := 20) hx hb hts hinX7 hown hK hP 10 rfl rfl 2 (by decide) (hts (.fieldLink RX7 7 "SeriesWatcherModel" "value" "[I") (by decide +kernel)) (fun _ h9 => h9) rfl dX7_correct_33 ?_
      refine lv_iload_n hx hb dX7_correct_36 rfl (lv_at hl 1 rfl) ?_
      refine va_iald (D := D) hx hb hK hP 0 0 rfl rfl (vp_in_nI (by omega) (by decide)) dX7_correct_37 ?_
      refine wt_i (by rw [nI_clamp (n := k) (by omega)]) ?_
      refine lv_istore_n (lv' := [(3, .int (v k)), (0, .ref o7), (1, .int (nI k)), (2, .int x)]) hx hb dX7_correct_38 rfl hl (by decide) rfl (fun ls hl => ?_)
      refine lv_aload_n hx hb dX7_correct_39 rfl (lv_at hl 1 rfl) ?_
      refine va_get (D := D) (ci := 7) (v := .ref mv) (C := RX7) (T := TX7) (N := 20) hx hb hts hinX7 hown hK hP 10 rfl rfl 2 (by decide) (hts (.fieldLink RX7 7 "SeriesWatcherModel" "value" "[I") (by decide +kernel)) (fun _ h9 => h9) rfl dX7_correct_40 ?_
      refine lv_iload_n hx hb dX7_correct_43 rfl (lv_at hl 2 rfl) ?_
      refine lv_iload_n hx hb dX7_correct_44 rfl (lv_at hl 3 rfl) ?_
      refine va_iast (D := D) hx hb hK hP hD hS 0 0 rfl rfl (vp_in_nI (by omega) (by decide)) dX7_correct_45 (fun H locs hP hD hS => ?_)
      rw [nI_clamp (n := k) (by omega)] at hP hD
      have hP : va_P D vwCl [(mv, .inl (cI, 60, .inl (upd v k x))), (mh, .inl (cZ, 60, .inl hf)), (ms, .inl (cI, 60, .inl fs)), (me, .inl (cI, 12, .inl se)), (mp, .inl (cI, 60, .inl pl)), (mc, .inl (cI, 3721, .inl co)), (ml, .inl (cI, 3721, .inl le)), (mb, .inl (cI, 61, .inl be)), (md, .inl (cI, 61, .inl en)), (mr, .inl (cI, 60, .inl re)), (o7, .inr (7, [.int (nI 0), .int (nI n), .ref mv, .ref mh, .int (nI len), .int (nI ll), .int pen, .int bf, .int bl, .int (nI cn), .ref ms, .int mid, .ref me, .ref mp, .ref mc, .ref ml, .ref mb, .ref md, .ref mr, .int spr]))] H := hP
      have hD : va_D A [(mv, .inl (cI, 60, .inl (upd v k x))), (mh, .inl (cZ, 60, .inl hf)), (ms, .inl (cI, 60, .inl fs)), (me, .inl (cI, 12, .inl se)), (mp, .inl (cI, 60, .inl pl)), (mc, .inl (cI, 3721, .inl co)), (ml, .inl (cI, 3721, .inl le)), (mb, .inl (cI, 61, .inl be)), (md, .inl (cI, 61, .inl en)), (mr, .inl (cI, 60, .inl re)), (o7, .inr (7, [.int (nI 0), .int (nI n), .ref mv, .ref mh, .int (nI len), .int (nI ll), .int pen, .int bf, .int bl, .int (nI cn), .ref ms, .int mid, .ref me, .ref mp, .ref mc, .ref ml, .ref mb, .ref md, .ref mr, .int spr]))] := hD
      refine lv_iload_n hx hb dX7_correct_46 rfl (lv_at hl 0 rfl) ?_
      exact kri hx hb hr hlocks hP hK hD hS [(o7, .inr (7, [.int (nI 0), .int (nI n), .ref mv, .ref mh, .int (nI len), .int (nI ll), .int pen, .int bf, .int bl, .int (nI cn), .ref ms, .int mid, .ref me, .ref mp, .ref mc, .ref ml, .ref mb, .ref md, .ref mr, .int spr])), (mv, .inl (cI, 60, .inl (upd v k x))), (mh, .inl (cZ, 60, .inl hf)), (ms, .inl (cI, 60, .inl fs)), (me, .inl (cI, 12, .inl se)), (mp, .inl (cI, 60, .inl pl)), (mc, .inl (cI, 3721, .inl co)), (ml, .inl (cI, 3721, .inl le)), (mb, .inl (cI, 61, .inl be)), (md, .inl (cI, 61, .inl en)), (mr, .inl (cI, 60, .inl re))] (⟨rfl, kMd_mk (fun h => absurd h (by decide)) (fun h => absurd h (by decide)) (fun h => absurd h (by decide))⟩) [10, 0, 1, 2, 3, 4, 5, 6, 7, 8, 9] (by decide +kernel) rfl dX7_correct_47
    · skip
      have c23 := keq (a := 1) (b := 0) c23 (by omega) (by omega)
      omega
  · skip
    have c10 := keq (a := 1) (b := 0) c10 (by omega) (by omega)
    omega

set_option maxHeartbeats 4000000 in
set_option maxRecDepth 100000 in
theorem c_X7_setHoliday (l : Launch) (D : va_G) (cI cZ cJ : ClassId) (sz : Nat)  (v hf : Nat → Int32) (n len ll : Nat) (pen bf bl th : Int32)  (o7 : Nat) (w6 : va_W) (k : Nat) (x : Int32) (hok : kOk v hf n len ll pen bf bl) (hst : kMd cI cZ v hf n len ll pen bf bl th 0 o7 w6) (hk : k < n) (hx9 : kbit x) : Met l yX7_setHoliday wsX7_setHoliday ({ frames := 8, cells := 0, slots := 0, locals := 330 }) (va_Pc [.ref o7, .int (nI k), .int x] (kPre D (tyA cI cZ cJ) sz w6)) (va_Qi (fun (r : Int32) (w2 : va_W) => r = hf k ∧ kMd cI cZ v (upd hf k x) n len ll pen bf bl (nI 0) 0 o7 w2) (kPost D (tyA cI cZ cJ) (va_A w6 sz) (fun (w2 : va_W) => w2)) (va_A w6 sz)) 0 0 (va_A w6 sz) := by
  refine kMd_open hst ?_
  intro mv mh cn ms me mp mc ml mb md mr mid spr fs se pl co le be en re e9w hv1 hv2 hv3
  clear hst
  subst e9w
  obtain ⟨hn, hbit, hln1, hln2, hll, hlm, hvb, hpb, hbb, hfb⟩ := id hok
  refine kOfW (cc := cX7_setHoliday) (maxL := 4) (ret := (some .boolean)) (fun A => va_Qi (fun (r : Int32) (w2 : va_W) => r = hf k ∧ kMd cI cZ v (upd hf k x) n len ll pen bf bl (nI 0) 0 o7 w2) (kPost D (tyA cI cZ cJ) (A) (fun (w2 : va_W) => w2)) (A)) (by decide) rfl (Nat.le_of_ble_eq_true rfl) ?_
  intro p_ e_ s m_ below_ meth_ c_ A ls hx hb hr hml hts hown hlocks hin hA hP hK hD hsz hl
  have hS : va_S A s.heap s.heap [] := va_S.rf
  have hl : lv_has ls 4 [(0, .ref o7), (1, .int (nI k)), (2, .int x)] := hl
  have hinX7 : ∀ w ∈ wsX70, w ∈ wsX7_setHoliday := fun w h => List.mem_cons_of_mem _ (List.mem_append_right _ h)
  refine lv_aload_n hx hb dX7_setHoliday_0 rfl (lv_at hl 0 rfl) ?_
  refine lv_aload_n hx hb dX7_setHoliday_1 rfl (lv_at hl 0 rfl) ?_
  refine lv_iload_n hx hb dX7_setHoliday_2 rfl (lv_at hl 1 rfl) ?_
  refine kci (wr := [(mv, .inl (cI, 60, .inl v)), (mh, .inl (cZ, 60, .inl hf)), (ms, .inl (cI, 60, .inl fs)), (me, .inl (cI, 12, .inl se)), (mp, .inl (cI, 60, .inl pl)), (mc, .inl (cI, 3721, .inl co)), (ml, .inl (cI, 3721, .inl le)), (mb, .inl (cI, 61, .inl be)), (md, .inl (cI, 61, .inl en)), (mr, .inl (cI, 60, .inl re))]) (pre := [(o7, .inr (7, [.int th, .int (nI n), .ref mv, .ref mh, .int (nI len), .int (nI ll), .int pen, .int bf, .int bl, .int (nI cn), .ref ms, .int mid, .ref me, .ref mp, .ref mc, .ref ml, .ref mb, .ref md, .ref mr, .int spr]))]) (va_runV (As := [.int (nI k)]) (rest := [.ref o7]) ⟨hx, hb, hml, hown, hts⟩ (c_X7_isValue l D cI cZ cJ s.heap.size o7 th n mv mh len ll pen bf bl cn ms mid me mp mc ml mb md mr spr (nI k) ) (cwV 1 hts gX7_setHoliday_X7_isValue rfl rfl rfl (by decide +kernel) ⟨Nat.le_of_ble_eq_true rfl, Nat.le_of_ble_eq_true rfl⟩) (kpreV hK hP hD (ci := 7) (q0 := 0) rfl rfl [0] (by decide +kernel) rfl) rfl rfl hl.1 rfl (lv_room (Nat.le_of_ble_eq_true rfl)) dX7_setHoliday_3 ⟨Nat.zero_le _, Nat.zero_le _⟩) hP hD hS hA [0] [1, 2, 3, 4, 5, 6, 7, 8, 9, 10] rfl rfl (by decide +kernel) (by decide +kernel) (fun r_1 _ H locs hw hP hD hS => ?_)
  have hP : va_P D vwCl [(mv, .inl (cI, 60, .inl v)), (mh, .inl (cZ, 60, .inl hf)), (ms, .inl (cI, 60, .inl fs)), (me, .inl (cI, 12, .inl se)), (mp, .inl (cI, 60, .inl pl)), (mc, .inl (cI, 3721, .inl co)), (ml, .inl (cI, 3721, .inl le)), (mb, .inl (cI, 61, .inl be)), (md, .inl (cI, 61, .inl en)), (mr, .inl (cI, 60, .inl re)), (o7, .inr (7, [.int th, .int (nI n), .ref mv, .ref mh, .int (nI len), .int (nI ll), .int pen, .int bf, .int bl, .int (nI cn), .ref ms, .int mid, .ref me, .ref mp, .ref mc, .ref ml, .ref mb, .ref md, .ref mr, .int spr]))] H := hP
  have hD : va_D A [(mv, .inl (cI, 60, .inl v)), (mh, .inl (cZ, 60, .inl hf)), (ms, .inl (cI, 60, .inl fs)), (me, .inl (cI, 12, .inl se)), (mp, .inl (cI, 60, .inl pl)), (mc, .inl (cI, 3721, .inl co)), (ml, .inl (cI, 3721, .inl le)), (mb, .inl (cI, 61, .inl be)), (md, .inl (cI, 61, .inl en)), (mr, .inl (cI, 60, .inl re)), (o7, .inr (7, [.int th, .int (nI n), .ref mv, .ref mh, .int (nI len), .int (nI ll), .int pen, .int bf, .int bl, .int (nI cn), .ref ms, .int mid, .ref me, .ref mp, .ref mc, .ref ml, .ref mb, .ref md, .ref mr, .int spr]))] := hD
  have hr9 : r_1 = kin (nI k) (nI 0) (nI n - nI 1) := hw
  refine wt_i hr9 ?_
  refine wt_i (y := nI 1) (kin_ok hn hk) ?_
  refine lv_if_eq (tgt := 13) hx hb dX7_setHoliday_6 (by decide) (fun c6 => ?_) (fun c6 => ?_)
  · skip
    have c6 := keq (a := 1) (b := 0) c6 (by omega) (by omega)
    omega
  · skip
    have c6 := kneq (a := 1) (b := 0) c6 (by omega) (by omega)
    refine lv_iconst (v := nI 0) hx hb dX7_setHoliday_9 (by decide) ?_
    refine lv_goto (tgt := 14) hx hb dX7_setHoliday_10 (by decide) ?_
    refine va_put (D := D) (ci := 7) (v := .int (nI 0)) (ty := .int) (C := RX7) (T := TX7) (N := 20) hx hb hts hinX7 tyX7 tyX7_ok nmX7 hown hK hP hD hS 10 rfl rfl 0 (by decide) (hts (.fieldLink RX7 57 "SeriesWatcherModel" "thrown" "I") (by decide +kernel)) (fun _ h9 => h9) rfl (by decide +kernel) rfl rfl (Nat.le_of_ble_eq_true rfl) dX7_setHoliday_14 (fun H locs hP hD hS => ?_)
    have hP : va_P D vwCl [(mv, .inl (cI, 60, .inl v)), (mh, .inl (cZ, 60, .inl hf)), (ms, .inl (cI, 60, .inl fs)), (me, .inl (cI, 12, .inl se)), (mp, .inl (cI, 60, .inl pl)), (mc, .inl (cI, 3721, .inl co)), (ml, .inl (cI, 3721, .inl le)), (mb, .inl (cI, 61, .inl be)), (md, .inl (cI, 61, .inl en)), (mr, .inl (cI, 60, .inl re)), (o7, .inr (7, [.int (nI 0), .int (nI n), .ref mv, .ref mh, .int (nI len), .int (nI ll), .int pen, .int bf, .int bl, .int (nI cn), .ref ms, .int mid, .ref me, .ref mp, .ref mc, .ref ml, .ref mb, .ref md, .ref mr, .int spr]))] H := hP
    have hD : va_D A [(mv, .inl (cI, 60, .inl v)), (mh, .inl (cZ, 60, .inl hf)), (ms, .inl (cI, 60, .inl fs)), (me, .inl (cI, 12, .inl se)), (mp, .inl (cI, 60, .inl pl)), (mc, .inl (cI, 3721, .inl co)), (ml, .inl (cI, 3721, .inl le)), (mb, .inl (cI, 61, .inl be)), (md, .inl (cI, 61, .inl en)), (mr, .inl (cI, 60, .inl re)), (o7, .inr (7, [.int (nI 0), .int (nI n), .ref mv, .ref mh, .int (nI len), .int (nI ll), .int pen, .int bf, .int bl, .int (nI cn), .ref ms, .int mid, .ref me, .ref mp, .ref mc, .ref ml, .ref mb, .ref md, .ref mr, .int spr]))] := hD
    refine lv_aload_n hx hb dX7_setHoliday_17 rfl (lv_at hl 0 rfl) ?_
    refine va_get (D := D) (ci := 7) (v := .int (nI 0)) (C := RX7) (T := TX7) (N := 20) hx hb hts hinX7 hown hK hP 10 rfl rfl 0 (by decide) (hts (.fieldLink RX7 57 "SeriesWatcherModel" "thrown" "I") (by decide +kernel)) (fun _ h9 => h9) rfl dX7_setHoliday_18 ?_
    refine lv_if_ne (tgt := 37) hx hb dX7_setHoliday_21 (by decide) (fun c21 => ?_) (fun c21 => ?_)
    · skip
      have c21 := kneq (a := 0) (b := 0) c21 (by omega) (by omega)
      omega
    · skip
      have c21 := keq (a := 0) (b := 0) c21 (by omega) (by omega)
      refine lv_aload_n hx hb dX7_setHoliday_24 rfl (lv_at hl 0 rfl) ?_
      refine va_get (D := D) (ci := 7) (v := .ref mh) (C := RX7) (T := TX7) (N := 20) hx hb hts hinX7 hown hK hP 10 rfl rfl 3 (by decide) (hts (.fieldLink RX7 13 "SeriesWatcherModel" "holiday" "[Z") (by decide +kernel)) (fun _ h9 => h9) rfl dX7_setHoliday_25 ?_
      refine lv_iload_n hx hb dX7_setHoliday_28 rfl (lv_at hl 1 rfl) ?_
      refine va_zald (D := D) hx hb hK hP 1 1 rfl rfl (vp_in_nI (by omega) (by decide)) dX7_setHoliday_29 ?_
      refine wt_i (by rw [nI_clamp (n := k) (by omega)]) ?_
      refine lv_if_eq (tgt := 37) hx hb dX7_setHoliday_30 (by decide) (fun c30 => ?_) (fun c30 => ?_)
      · skip
        refine lv_iconst (v := nI 0) hx hb dX7_setHoliday_37 (by decide) ?_
        refine lv_istore_n (lv' := [(3, .int (nI 0)), (0, .ref o7), (1, .int (nI k)), (2, .int x)]) hx hb dX7_setHoliday_38 rfl hl (by decide) rfl (fun ls hl => ?_)
        refine lv_aload_n hx hb dX7_setHoliday_39 rfl (lv_at hl 1 rfl) ?_
        refine va_get (D := D) (ci := 7) (v := .int (nI 0)) (C := RX7) (T := TX7) (N := 20) hx hb hts hinX7 hown hK hP 10 rfl rfl 0 (by decide) (hts (.fieldLink RX7 57 "SeriesWatcherModel" "thrown" "I") (by decide +kernel)) (fun _ h9 => h9) rfl dX7_setHoliday_40 ?_
        refine lv_if_ne (tgt := 53) hx hb dX7_setHoliday_43 (by decide) (fun c43 => ?_) (fun c43 => ?_)
        · skip
          have c43 := kneq (a := 0) (b := 0) c43 (by omega) (by omega)
          omega
        · skip
          have c43 := keq (a := 0) (b := 0) c43 (by omega) (by omega)
          refine lv_aload_n hx hb dX7_setHoliday_46 rfl (lv_at hl 1 rfl) ?_
          refine va_get (D := D) (ci := 7) (v := .ref mh) (C := RX7) (T := TX7) (N := 20) hx hb hts hinX7 hown hK hP 10 rfl rfl 3 (by decide) (hts (.fieldLink RX7 13 "SeriesWatcherModel" "holiday" "[Z") (by decide +kernel)) (fun _ h9 => h9) rfl dX7_setHoliday_47 ?_
          refine lv_iload_n hx hb dX7_setHoliday_50 rfl (lv_at hl 2 rfl) ?_
          refine lv_iload_n hx hb dX7_setHoliday_51 rfl (lv_at hl 3 rfl) ?_
          refine va_zast (D := D) hx hb hK hP hD hS 1 1 rfl rfl (vp_in_nI (by omega) (by decide)) dX7_setHoliday_52 (fun H locs hP hD hS => ?_)
          rw [nI_clamp (n := k) (by omega), kzb hx9] at hP hD
          have hP : va_P D vwCl [(mv, .inl (cI, 60, .inl v)), (mh, .inl (cZ, 60, .inl (upd hf k x))), (ms, .inl (cI, 60, .inl fs)), (me, .inl (cI, 12, .inl se)), (mp, .inl (cI, 60, .inl pl)), (mc, .inl (cI, 3721, .inl co)), (ml, .inl (cI, 3721, .inl le)), (mb, .inl (cI, 61, .inl be)), (md, .inl (cI, 61, .inl en)), (mr, .inl (cI, 60, .inl re)), (o7, .inr (7, [.int (nI 0), .int (nI n), .ref mv, .ref mh, .int (nI len), .int (nI ll), .int pen, .int bf, .int bl, .int (nI cn), .ref ms, .int mid, .ref me, .ref mp, .ref mc, .ref ml, .ref mb, .ref md, .ref mr, .int spr]))] H := hP
          have hD : va_D A [(mv, .inl (cI, 60, .inl v)), (mh, .inl (cZ, 60, .inl (upd hf k x))), (ms, .inl (cI, 60, .inl fs)), (me, .inl (cI, 12, .inl se)), (mp, .inl (cI, 60, .inl pl)), (mc, .inl (cI, 3721, .inl co)), (ml, .inl (cI, 3721, .inl le)), (mb, .inl (cI, 61, .inl be)), (md, .inl (cI, 61, .inl en)), (mr, .inl (cI, 60, .inl re)), (o7, .inr (7, [.int (nI 0), .int (nI n), .ref mv, .ref mh, .int (nI len), .int (nI ll), .int pen, .int bf, .int bl, .int (nI cn), .ref ms, .int mid, .ref me, .ref mp, .ref mc, .ref ml, .ref mb, .ref md, .ref mr, .int spr]))] := hD
          refine lv_iload_n hx hb dX7_setHoliday_53 rfl (lv_at hl 0 rfl) ?_
          exact krz hx hb hr hlocks (by first | exact Or.inl rfl | exact Or.inr rfl) hP hK hD hS [(o7, .inr (7, [.int (nI 0), .int (nI n), .ref mv, .ref mh, .int (nI len), .int (nI ll), .int pen, .int bf, .int bl, .int (nI cn), .ref ms, .int mid, .ref me, .ref mp, .ref mc, .ref ml, .ref mb, .ref md, .ref mr, .int spr])), (mv, .inl (cI, 60, .inl v)), (mh, .inl (cZ, 60, .inl (upd hf k x))), (ms, .inl (cI, 60, .inl fs)), (me, .inl (cI, 12, .inl se)), (mp, .inl (cI, 60, .inl pl)), (mc, .inl (cI, 3721, .inl co)), (ml, .inl (cI, 3721, .inl le)), (mb, .inl (cI, 61, .inl be)), (md, .inl (cI, 61, .inl en)), (mr, .inl (cI, 60, .inl re))] (⟨by first | exact c30.symm | exact (kb1 (hbit k) c30).symm, kMd_mk (fun h => absurd h (by decide)) (fun h => absurd h (by decide)) (fun h => absurd h (by decide))⟩) [10, 0, 1, 2, 3, 4, 5, 6, 7, 8, 9] (by decide +kernel) rfl dX7_setHoliday_54
      · skip
        refine lv_iconst (v := nI 1) hx hb dX7_setHoliday_33 (by decide) ?_
        refine lv_goto (tgt := 38) hx hb dX7_setHoliday_34 (by decide) ?_
        refine lv_istore_n (lv' := [(3, .int (nI 1)), (0, .ref o7), (1, .int (nI k)), (2, .int x)]) hx hb dX7_setHoliday_38 rfl hl (by decide) rfl (fun ls hl => ?_)
        refine lv_aload_n hx hb dX7_setHoliday_39 rfl (lv_at hl 1 rfl) ?_
        refine va_get (D := D) (ci := 7) (v := .int (nI 0)) (C := RX7) (T := TX7) (N := 20) hx hb hts hinX7 hown hK hP 10 rfl rfl 0 (by decide) (hts (.fieldLink RX7 57 "SeriesWatcherModel" "thrown" "I") (by decide +kernel)) (fun _ h9 => h9) rfl dX7_setHoliday_40 ?_
        refine lv_if_ne (tgt := 53) hx hb dX7_setHoliday_43 (by decide) (fun c43 => ?_) (fun c43 => ?_)
        · skip
          have c43 := kneq (a := 0) (b := 0) c43 (by omega) (by omega)
          omega
        · skip
          have c43 := keq (a := 0) (b := 0) c43 (by omega) (by omega)
          refine lv_aload_n hx hb dX7_setHoliday_46 rfl (lv_at hl 1 rfl) ?_
          refine va_get (D := D) (ci := 7) (v := .ref mh) (C := RX7) (T := TX7) (N := 20) hx hb hts hinX7 hown hK hP 10 rfl rfl 3 (by decide) (hts (.fieldLink RX7 13 "SeriesWatcherModel" "holiday" "[Z") (by decide +kernel)) (fun _ h9 => h9) rfl dX7_setHoliday_47 ?_
          refine lv_iload_n hx hb dX7_setHoliday_50 rfl (lv_at hl 2 rfl) ?_
          refine lv_iload_n hx hb dX7_setHoliday_51 rfl (lv_at hl 3 rfl) ?_
          refine va_zast (D := D) hx hb hK hP hD hS 1 1 rfl rfl (vp_in_nI (by omega) (by decide)) dX7_setHoliday_52 (fun H locs hP hD hS => ?_)
          rw [nI_clamp (n := k) (by omega), kzb hx9] at hP hD
          have hP : va_P D vwCl [(mv, .inl (cI, 60, .inl v)), (mh, .inl (cZ, 60, .inl (upd hf k x))), (ms, .inl (cI, 60, .inl fs)), (me, .inl (cI, 12, .inl se)), (mp, .inl (cI, 60, .inl pl)), (mc, .inl (cI, 3721, .inl co)), (ml, .inl (cI, 3721, .inl le)), (mb, .inl (cI, 61, .inl be)), (md, .inl (cI, 61, .inl en)), (mr, .inl (cI, 60, .inl re)), (o7, .inr (7, [.int (nI 0), .int (nI n), .ref mv, .ref mh, .int (nI len), .int (nI ll), .int pen, .int bf, .int bl, .int (nI cn), .ref ms, .int mid, .ref me, .ref mp, .ref mc, .ref ml, .ref mb, .ref md, .ref mr, .int spr]))] H := hP
          have hD : va_D A [(mv, .inl (cI, 60, .inl v)), (mh, .inl (cZ, 60, .inl (upd hf k x))), (ms, .inl (cI, 60, .inl fs)), (me, .inl (cI, 12, .inl se)), (mp, .inl (cI, 60, .inl pl)), (mc, .inl (cI, 3721, .inl co)), (ml, .inl (cI, 3721, .inl le)), (mb, .inl (cI, 61, .inl be)), (md, .inl (cI, 61, .inl en)), (mr, .inl (cI, 60, .inl re)), (o7, .inr (7, [.int (nI 0), .int (nI n), .ref mv, .ref mh, .int (nI len), .int (nI ll), .int pen, .int bf, .int bl, .int (nI cn), .ref ms, .int mid, .ref me, .ref mp, .ref mc, .ref ml, .ref mb, .ref md, .ref mr, .int spr]))] := hD
          refine lv_iload_n hx hb dX7_setHoliday_53 rfl (lv_at hl 0 rfl) ?_
          exact krz hx hb hr hlocks (by first | exact Or.inl rfl | exact Or.inr rfl) hP hK hD hS [(o7, .inr (7, [.int (nI 0), .int (nI n), .ref mv, .ref mh, .int (nI len), .int (nI ll), .int pen, .int bf, .int bl, .int (nI cn), .ref ms, .int mid, .ref me, .ref mp, .ref mc, .ref ml, .ref mb, .ref md, .ref mr, .int spr])), (mv, .inl (cI, 60, .inl v)), (mh, .inl (cZ, 60, .inl (upd hf k x))), (ms, .inl (cI, 60, .inl fs)), (me, .inl (cI, 12, .inl se)), (mp, .inl (cI, 60, .inl pl)), (mc, .inl (cI, 3721, .inl co)), (ml, .inl (cI, 3721, .inl le)), (mb, .inl (cI, 61, .inl be)), (md, .inl (cI, 61, .inl en)), (mr, .inl (cI, 60, .inl re))] (⟨by first | exact c30.symm | exact (kb1 (hbit k) c30).symm, kMd_mk (fun h => absurd h (by decide)) (fun h => absurd h (by decide)) (fun h => absurd h (by decide))⟩) [10, 0, 1, 2, 3, 4, 5, 6, 7, 8, 9] (by decide +kernel) rfl dX7_setHoliday_54

set_option maxHeartbeats 4000000 in
set_option maxRecDepth 100000 in
theorem c_X7_drop (l : Launch) (D : va_G) (cI cZ cJ : ClassId) (sz : Nat)  (v hf : Nat → Int32) (n len ll : Nat) (pen bf bl th : Int32)  (o7 : Nat) (w6 : va_W) (k : Nat) (hok : kOk v hf n len ll pen bf bl) (hst : kMd cI cZ v hf n len ll pen bf bl th 0 o7 w6) (hk : k ≤ n) : Met l yX7_drop wsX7_drop ({ frames := 8, cells := 0, slots := 0, locals := 330 }) (va_Pc [.ref o7, .int (nI k)] (kPre D (tyA cI cZ cJ) sz w6)) (va_Qi (fun (r : Int32) (w2 : va_W) => r = nI (n - k) ∧ kMd cI cZ (kshift v n k) (kshift hf n k) (n - k) len ll pen bf bl (nI 0) 0 o7 w2) (kPost D (tyA cI cZ cJ) (va_A w6 sz) (fun (w2 : va_W) => w2)) (va_A w6 sz)) 0 0 (va_A w6 sz) := by
  refine kMd_open hst ?_
  intro mv mh cn ms me mp mc ml mb md mr mid spr fs se pl co le be en re e9w hv1 hv2 hv3
  clear hst
  subst e9w
  obtain ⟨hn, hbit, hln1, hln2, hll, hlm, hvb, hpb, hbb, hfb⟩ := id hok
  refine kOfW (cc := cX7_drop) (maxL := 3) (ret := (some .int)) (fun A => va_Qi (fun (r : Int32) (w2 : va_W) => r = nI (n - k) ∧ kMd cI cZ (kshift v n k) (kshift hf n k) (n - k) len ll pen bf bl (nI 0) 0 o7 w2) (kPost D (tyA cI cZ cJ) (A) (fun (w2 : va_W) => w2)) (A)) (by decide) rfl (Nat.le_of_ble_eq_true rfl) ?_
  intro p_ e_ s m_ below_ meth_ c_ A ls hx hb hr hml hts hown hlocks hin hA hP hK hD hsz hl
  have hS : va_S A s.heap s.heap [] := va_S.rf
  have hl : lv_has ls 3 [(0, .ref o7), (1, .int (nI k))] := hl
  have hinX7 : ∀ w ∈ wsX70, w ∈ wsX7_drop := fun w h => List.mem_cons_of_mem _ (List.mem_append_right _ h)
  refine lv_aload_n hx hb dX7_drop_0 rfl (lv_at hl 0 rfl) ?_
  refine lv_iconst (v := nI 0) hx hb dX7_drop_1 (by decide) ?_
  refine va_put (D := D) (ci := 7) (v := .int (nI 0)) (ty := .int) (C := RX7) (T := TX7) (N := 20) hx hb hts hinX7 tyX7 tyX7_ok nmX7 hown hK hP hD hS 0 rfl rfl 0 (by decide) (hts (.fieldLink RX7 57 "SeriesWatcherModel" "thrown" "I") (by decide +kernel)) (fun _ h9 => h9) rfl (by decide +kernel) rfl rfl (Nat.le_of_ble_eq_true rfl) dX7_drop_2 (fun H locs hP hD hS => ?_)
  have hP : va_P D vwCl [(o7, .inr (7, [.int (nI 0), .int (nI n), .ref mv, .ref mh, .int (nI len), .int (nI ll), .int pen, .int bf, .int bl, .int (nI cn), .ref ms, .int mid, .ref me, .ref mp, .ref mc, .ref ml, .ref mb, .ref md, .ref mr, .int spr])), (mv, .inl (cI, 60, .inl v)), (mh, .inl (cZ, 60, .inl hf)), (ms, .inl (cI, 60, .inl fs)), (me, .inl (cI, 12, .inl se)), (mp, .inl (cI, 60, .inl pl)), (mc, .inl (cI, 3721, .inl co)), (ml, .inl (cI, 3721, .inl le)), (mb, .inl (cI, 61, .inl be)), (md, .inl (cI, 61, .inl en)), (mr, .inl (cI, 60, .inl re))] H := hP
  have hD : va_D A [(o7, .inr (7, [.int (nI 0), .int (nI n), .ref mv, .ref mh, .int (nI len), .int (nI ll), .int pen, .int bf, .int bl, .int (nI cn), .ref ms, .int mid, .ref me, .ref mp, .ref mc, .ref ml, .ref mb, .ref md, .ref mr, .int spr])), (mv, .inl (cI, 60, .inl v)), (mh, .inl (cZ, 60, .inl hf)), (ms, .inl (cI, 60, .inl fs)), (me, .inl (cI, 12, .inl se)), (mp, .inl (cI, 60, .inl pl)), (mc, .inl (cI, 3721, .inl co)), (ml, .inl (cI, 3721, .inl le)), (mb, .inl (cI, 61, .inl be)), (md, .inl (cI, 61, .inl en)), (mr, .inl (cI, 60, .inl re))] := hD
  refine lv_iload_n hx hb dX7_drop_5 rfl (lv_at hl 1 rfl) ?_
  refine lv_iconst (v := nI 0) hx hb dX7_drop_6 (by decide) ?_
  refine lv_aload_n hx hb dX7_drop_7 rfl (lv_at hl 0 rfl) ?_
  refine va_get (D := D) (ci := 7) (v := .int (nI n)) (C := RX7) (T := TX7) (N := 20) hx hb hts hinX7 hown hK hP 0 rfl rfl 1 (by decide) (hts (.fieldLink RX7 60 "SeriesWatcherModel" "many" "I") (by decide +kernel)) (fun _ h9 => h9) rfl dX7_drop_8 ?_
  refine kci (wr := [(o7, .inr (7, [.int (nI 0), .int (nI n), .ref mv, .ref mh, .int (nI len), .int (nI ll), .int pen, .int bf, .int bl, .int (nI cn), .ref ms, .int mid, .ref me, .ref mp, .ref mc, .ref ml, .ref mb, .ref md, .ref mr, .int spr])), (mv, .inl (cI, 60, .inl v)), (mh, .inl (cZ, 60, .inl hf)), (ms, .inl (cI, 60, .inl fs)), (me, .inl (cI, 12, .inl se)), (mp, .inl (cI, 60, .inl pl)), (mc, .inl (cI, 3721, .inl co)), (ml, .inl (cI, 3721, .inl le)), (mb, .inl (cI, 61, .inl be)), (md, .inl (cI, 61, .inl en)), (mr, .inl (cI, 60, .inl re))]) (pre := []) (va_runS (As := [.int (nI k), .int (nI 0), .int (nI n)]) (rest := []) ⟨hx, hb, hml, hown, hts⟩ (c_X7_in l D cI cZ cJ H.size (nI k) (nI 0) (nI n) ) (va_cwS 3 hts gX7_drop_X7_in rfl rfl rfl (by decide +kernel) ⟨Nat.le_of_ble_eq_true rfl, Nat.le_of_ble_eq_true rfl⟩) (kpreS hK hP hD [] (by decide +kernel) rfl) rfl rfl hl.1 rfl (lv_room (Nat.le_of_ble_eq_true rfl)) dX7_drop_11 ⟨Nat.zero_le _, Nat.zero_le _⟩) hP hD hS hA [] [0, 1, 2, 3, 4, 5, 6, 7, 8, 9, 10] rfl rfl (by decide +kernel) (by decide +kernel) (fun r_1 _ H locs hw hP hD hS => ?_)
  have hP : va_P D vwCl [(o7, .inr (7, [.int (nI 0), .int (nI n), .ref mv, .ref mh, .int (nI len), .int (nI ll), .int pen, .int bf, .int bl, .int (nI cn), .ref ms, .int mid, .ref me, .ref mp, .ref mc, .ref ml, .ref mb, .ref md, .ref mr, .int spr])), (mv, .inl (cI, 60, .inl v)), (mh, .inl (cZ, 60, .inl hf)), (ms, .inl (cI, 60, .inl fs)), (me, .inl (cI, 12, .inl se)), (mp, .inl (cI, 60, .inl pl)), (mc, .inl (cI, 3721, .inl co)), (ml, .inl (cI, 3721, .inl le)), (mb, .inl (cI, 61, .inl be)), (md, .inl (cI, 61, .inl en)), (mr, .inl (cI, 60, .inl re))] H := hP
  have hD : va_D A [(o7, .inr (7, [.int (nI 0), .int (nI n), .ref mv, .ref mh, .int (nI len), .int (nI ll), .int pen, .int bf, .int bl, .int (nI cn), .ref ms, .int mid, .ref me, .ref mp, .ref mc, .ref ml, .ref mb, .ref md, .ref mr, .int spr])), (mv, .inl (cI, 60, .inl v)), (mh, .inl (cZ, 60, .inl hf)), (ms, .inl (cI, 60, .inl fs)), (me, .inl (cI, 12, .inl se)), (mp, .inl (cI, 60, .inl pl)), (mc, .inl (cI, 3721, .inl co)), (ml, .inl (cI, 3721, .inl le)), (mb, .inl (cI, 61, .inl be)), (md, .inl (cI, 61, .inl en)), (mr, .inl (cI, 60, .inl re))] := hD
  have hr9 : r_1 = kin (nI k) (nI 0) (nI n) := hw
  refine wt_i hr9 ?_
  refine wt_i (y := nI 1) (kin_le (Nat.zero_le k) hk (by omega)) ?_
  refine lv_if_ne (tgt := 23) hx hb dX7_drop_14 (by decide) (fun c14 => ?_) (fun c14 => ?_)
  · skip
    have c14 := kneq (a := 1) (b := 0) c14 (by omega) (by omega)
    refine lv_aload_n hx hb dX7_drop_23 rfl (lv_at hl 0 rfl) ?_
    refine lv_dup hx hb dX7_drop_24 rfl ?_
    refine va_get (D := D) (ci := 7) (v := .int (nI n)) (C := RX7) (T := TX7) (N := 20) hx hb hts hinX7 hown hK hP 0 rfl rfl 1 (by decide) (hts (.fieldLink RX7 60 "SeriesWatcherModel" "many" "I") (by decide +kernel)) (fun _ h9 => h9) rfl dX7_drop_25 ?_
    refine lv_iload_n hx hb dX7_drop_28 rfl (lv_at hl 1 rfl) ?_
    refine lv_isub hx hb dX7_drop_29 ?_
    refine wt_i (pk_sub (by omega)) ?_
    refine va_put (D := D) (ci := 7) (v := .int (nI (n - k))) (ty := .int) (C := RX7) (T := TX7) (N := 20) hx hb hts hinX7 tyX7 tyX7_ok nmX7 hown hK hP hD hS 0 rfl rfl 1 (by decide) (hts (.fieldLink RX7 60 "SeriesWatcherModel" "many" "I") (by decide +kernel)) (fun _ h9 => h9) rfl (by decide +kernel) rfl rfl (Nat.le_of_ble_eq_true rfl) dX7_drop_30 (fun H locs hP hD hS => ?_)
    have hP : va_P D vwCl [(o7, .inr (7, [.int (nI 0), .int (nI (n - k)), .ref mv, .ref mh, .int (nI len), .int (nI ll), .int pen, .int bf, .int bl, .int (nI cn), .ref ms, .int mid, .ref me, .ref mp, .ref mc, .ref ml, .ref mb, .ref md, .ref mr, .int spr])), (mv, .inl (cI, 60, .inl v)), (mh, .inl (cZ, 60, .inl hf)), (ms, .inl (cI, 60, .inl fs)), (me, .inl (cI, 12, .inl se)), (mp, .inl (cI, 60, .inl pl)), (mc, .inl (cI, 3721, .inl co)), (ml, .inl (cI, 3721, .inl le)), (mb, .inl (cI, 61, .inl be)), (md, .inl (cI, 61, .inl en)), (mr, .inl (cI, 60, .inl re))] H := hP
    have hD : va_D A [(o7, .inr (7, [.int (nI 0), .int (nI (n - k)), .ref mv, .ref mh, .int (nI len), .int (nI ll), .int pen, .int bf, .int bl, .int (nI cn), .ref ms, .int mid, .ref me, .ref mp, .ref mc, .ref ml, .ref mb, .ref md, .ref mr, .int spr])), (mv, .inl (cI, 60, .inl v)), (mh, .inl (cZ, 60, .inl hf)), (ms, .inl (cI, 60, .inl fs)), (me, .inl (cI, 12, .inl se)), (mp, .inl (cI, 60, .inl pl)), (mc, .inl (cI, 3721, .inl co)), (ml, .inl (cI, 3721, .inl le)), (mb, .inl (cI, 61, .inl be)), (md, .inl (cI, 61, .inl en)), (mr, .inl (cI, 60, .inl re))] := hD
    refine lv_iconst (v := nI 0) hx hb dX7_drop_33 (by decide) ?_
    refine lv_istore_n (lv' := [(2, .int (nI 0)), (0, .ref o7), (1, .int (nI k))]) hx hb dX7_drop_34 rfl hl (by decide) rfl (fun ls hl => ?_)
    refine wl_loop (fun (d9 : Nat) (H : Heap) (locs : List Loc) (ls : Array Slot) => ∃ (j : Nat) (g : Nat → Int32) (gh : Nat → Int32), d9 = n - k - j ∧ (j ≤ n - k) ∧ (∀ i, i < j → g i = v (i + k)) ∧ (∀ i, i < j → gh i = hf (i + k)) ∧ (∀ i, j ≤ i → g i = v i) ∧ (∀ i, j ≤ i → gh i = hf i) ∧ va_P D vwCl [(o7, .inr (7, [.int (nI 0), .int (nI (n - k)), .ref mv, .ref mh, .int (nI len), .int (nI ll), .int pen, .int bf, .int bl, .int (nI cn), .ref ms, .int mid, .ref me, .ref mp, .ref mc, .ref ml, .ref mb, .ref md, .ref mr, .int spr])), (mv, .inl (cI, 60, .inl g)), (mh, .inl (cZ, 60, .inl gh)), (ms, .inl (cI, 60, .inl fs)), (me, .inl (cI, 12, .inl se)), (mp, .inl (cI, 60, .inl pl)), (mc, .inl (cI, 3721, .inl co)), (ml, .inl (cI, 3721, .inl le)), (mb, .inl (cI, 61, .inl be)), (md, .inl (cI, 61, .inl en)), (mr, .inl (cI, 60, .inl re))] H ∧ va_D A [(o7, .inr (7, [.int (nI 0), .int (nI (n - k)), .ref mv, .ref mh, .int (nI len), .int (nI ll), .int pen, .int bf, .int bl, .int (nI cn), .ref ms, .int mid, .ref me, .ref mp, .ref mc, .ref ml, .ref mb, .ref md, .ref mr, .int spr])), (mv, .inl (cI, 60, .inl g)), (mh, .inl (cZ, 60, .inl gh)), (ms, .inl (cI, 60, .inl fs)), (me, .inl (cI, 12, .inl se)), (mp, .inl (cI, 60, .inl pl)), (mc, .inl (cI, 3721, .inl co)), (ml, .inl (cI, 3721, .inl le)), (mb, .inl (cI, 61, .inl be)), (md, .inl (cI, 61, .inl en)), (mr, .inl (cI, 60, .inl re))] ∧ va_S A s.heap H locs ∧ lv_has ls 3 [(2, .int (nI j)), (0, .ref o7), (1, .int (nI k))]) ?_ _ ⟨0, _, _, rfl, Nat.zero_le _, fun i q => absurd q (Nat.not_lt_zero i), fun i q => absurd q (Nat.not_lt_zero i), fun _ _ => rfl, fun _ _ => rfl, hP, hD, hS, lv_sub hl [0, 1, 2] rfl⟩
    rintro d_4 H locs ls ⟨j, g, gh, hd_5, hj, h1, h2, h3, h4, hP, hD, hS, hl⟩ ih_3
    refine lv_iload_n hx hb dX7_drop_35 rfl (lv_at hl 0 rfl) ?_
    refine lv_aload_n hx hb dX7_drop_36 rfl (lv_at hl 1 rfl) ?_
    refine va_get (D := D) (ci := 7) (v := .int (nI (n - k))) (C := RX7) (T := TX7) (N := 20) hx hb hts hinX7 hown hK hP 0 rfl rfl 1 (by decide) (hts (.fieldLink RX7 60 "SeriesWatcherModel" "many" "I") (by decide +kernel)) (fun _ h9 => h9) rfl dX7_drop_37 ?_
    refine lv_icmp_ge (tgt := 77) hx hb dX7_drop_40 (by decide) (fun c40 => ?_) (fun c40 => ?_)
    · skip
      have c40 := kle (a := (n - k)) (b := j) c40 (by omega) (by omega)
      have eg : g = kshift v n k := funext fun i => by unfold kshift; split; exact h1 i (by omega); exact h3 i (by omega)
      have egh : gh = kshift hf n k := funext fun i => by unfold kshift; split; exact h2 i (by omega); exact h4 i (by omega)
      rw [eg, egh] at hP hD
      refine lv_aload_n hx hb dX7_drop_77 rfl (lv_at hl 1 rfl) ?_
      refine va_get (D := D) (ci := 7) (v := .int (nI (n - k))) (C := RX7) (T := TX7) (N := 20) hx hb hts hinX7 hown hK hP 0 rfl rfl 1 (by decide) (hts (.fieldLink RX7 60 "SeriesWatcherModel" "many" "I") (by decide +kernel)) (fun _ h9 => h9) rfl dX7_drop_78 ?_
      exact kri hx hb hr hlocks hP hK hD hS [(o7, .inr (7, [.int (nI 0), .int (nI (n - k)), .ref mv, .ref mh, .int (nI len), .int (nI ll), .int pen, .int bf, .int bl, .int (nI cn), .ref ms, .int mid, .ref me, .ref mp, .ref mc, .ref ml, .ref mb, .ref md, .ref mr, .int spr])), (mv, .inl (cI, 60, .inl (kshift v n k))), (mh, .inl (cZ, 60, .inl (kshift hf n k))), (ms, .inl (cI, 60, .inl fs)), (me, .inl (cI, 12, .inl se)), (mp, .inl (cI, 60, .inl pl)), (mc, .inl (cI, 3721, .inl co)), (ml, .inl (cI, 3721, .inl le)), (mb, .inl (cI, 61, .inl be)), (md, .inl (cI, 61, .inl en)), (mr, .inl (cI, 60, .inl re))] (⟨rfl, kMd_mk (fun h => absurd h (by decide)) (fun h => absurd h (by decide)) (fun h => absurd h (by decide))⟩) [0, 1, 2, 3, 4, 5, 6, 7, 8, 9, 10] (by decide +kernel) rfl dX7_drop_81
    · skip
      have c40 := knle (a := (n - k)) (b := j) c40 (by omega) (by omega)
      refine lv_aload_n hx hb dX7_drop_43 rfl (lv_at hl 1 rfl) ?_
      refine va_get (D := D) (ci := 7) (v := .ref mv) (C := RX7) (T := TX7) (N := 20) hx hb hts hinX7 hown hK hP 0 rfl rfl 2 (by decide) (hts (.fieldLink RX7 7 "SeriesWatcherModel" "value" "[I") (by decide +kernel)) (fun _ h9 => h9) rfl dX7_drop_44 ?_
      refine lv_iload_n hx hb dX7_drop_47 rfl (lv_at hl 0 rfl) ?_
      refine lv_aload_n hx hb dX7_drop_48 rfl (lv_at hl 1 rfl) ?_
      refine va_get (D := D) (ci := 7) (v := .ref mv) (C := RX7) (T := TX7) (N := 20) hx hb hts hinX7 hown hK hP 0 rfl rfl 2 (by decide) (hts (.fieldLink RX7 7 "SeriesWatcherModel" "value" "[I") (by decide +kernel)) (fun _ h9 => h9) rfl dX7_drop_49 ?_
      refine lv_iload_n hx hb dX7_drop_52 rfl (lv_at hl 0 rfl) ?_
      refine lv_iload_n hx hb dX7_drop_53 rfl (lv_at hl 2 rfl) ?_
      refine lv_iadd hx hb dX7_drop_54 ?_
      refine wt_i (nI_add _ _) ?_
      refine va_iald (D := D) hx hb hK hP 1 0 rfl rfl (vp_in_nI (by omega) (by decide)) dX7_drop_55 ?_
      refine wt_i (by rw [nI_clamp (n := (j + k)) (by omega)]) ?_
      refine va_iast (D := D) hx hb hK hP hD hS 1 0 rfl rfl (vp_in_nI (by omega) (by decide)) dX7_drop_56 (fun H locs hP hD hS => ?_)
      rw [nI_clamp (n := j) (by omega)] at hP hD
      have hP : va_P D vwCl [(o7, .inr (7, [.int (nI 0), .int (nI (n - k)), .ref mv, .ref mh, .int (nI len), .int (nI ll), .int pen, .int bf, .int bl, .int (nI cn), .ref ms, .int mid, .ref me, .ref mp, .ref mc, .ref ml, .ref mb, .ref md, .ref mr, .int spr])), (mv, .inl (cI, 60, .inl (upd g j (g (j + k))))), (mh, .inl (cZ, 60, .inl gh)), (ms, .inl (cI, 60, .inl fs)), (me, .inl (cI, 12, .inl se)), (mp, .inl (cI, 60, .inl pl)), (mc, .inl (cI, 3721, .inl co)), (ml, .inl (cI, 3721, .inl le)), (mb, .inl (cI, 61, .inl be)), (md, .inl (cI, 61, .inl en)), (mr, .inl (cI, 60, .inl re))] H := hP
      have hD : va_D A [(o7, .inr (7, [.int (nI 0), .int (nI (n - k)), .ref mv, .ref mh, .int (nI len), .int (nI ll), .int pen, .int bf, .int bl, .int (nI cn), .ref ms, .int mid, .ref me, .ref mp, .ref mc, .ref ml, .ref mb, .ref md, .ref mr, .int spr])), (mv, .inl (cI, 60, .inl (upd g j (g (j + k))))), (mh, .inl (cZ, 60, .inl gh)), (ms, .inl (cI, 60, .inl fs)), (me, .inl (cI, 12, .inl se)), (mp, .inl (cI, 60, .inl pl)), (mc, .inl (cI, 3721, .inl co)), (ml, .inl (cI, 3721, .inl le)), (mb, .inl (cI, 61, .inl be)), (md, .inl (cI, 61, .inl en)), (mr, .inl (cI, 60, .inl re))] := hD
      refine lv_aload_n hx hb dX7_drop_57 rfl (lv_at hl 1 rfl) ?_
      refine va_get (D := D) (ci := 7) (v := .ref mh) (C := RX7) (T := TX7) (N := 20) hx hb hts hinX7 hown hK hP 0 rfl rfl 3 (by decide) (hts (.fieldLink RX7 13 "SeriesWatcherModel" "holiday" "[Z") (by decide +kernel)) (fun _ h9 => h9) rfl dX7_drop_58 ?_
      refine lv_iload_n hx hb dX7_drop_61 rfl (lv_at hl 0 rfl) ?_
      refine lv_aload_n hx hb dX7_drop_62 rfl (lv_at hl 1 rfl) ?_
      refine va_get (D := D) (ci := 7) (v := .ref mh) (C := RX7) (T := TX7) (N := 20) hx hb hts hinX7 hown hK hP 0 rfl rfl 3 (by decide) (hts (.fieldLink RX7 13 "SeriesWatcherModel" "holiday" "[Z") (by decide +kernel)) (fun _ h9 => h9) rfl dX7_drop_63 ?_
      refine lv_iload_n hx hb dX7_drop_66 rfl (lv_at hl 0 rfl) ?_
      refine lv_iload_n hx hb dX7_drop_67 rfl (lv_at hl 2 rfl) ?_
      refine lv_iadd hx hb dX7_drop_68 ?_
      refine wt_i (nI_add _ _) ?_
      refine va_zald (D := D) hx hb hK hP 2 1 rfl rfl (vp_in_nI (by omega) (by decide)) dX7_drop_69 ?_
      refine wt_i (by rw [nI_clamp (n := (j + k)) (by omega)]) ?_
      refine va_zast (D := D) hx hb hK hP hD hS 2 1 rfl rfl (vp_in_nI (by omega) (by decide)) dX7_drop_70 (fun H locs hP hD hS => ?_)
      rw [nI_clamp (n := j) (by omega), kzb (by rw [h4 _ (by omega)]; exact hbit _)] at hP hD
      have hP : va_P D vwCl [(o7, .inr (7, [.int (nI 0), .int (nI (n - k)), .ref mv, .ref mh, .int (nI len), .int (nI ll), .int pen, .int bf, .int bl, .int (nI cn), .ref ms, .int mid, .ref me, .ref mp, .ref mc, .ref ml, .ref mb, .ref md, .ref mr, .int spr])), (mv, .inl (cI, 60, .inl (upd g j (g (j + k))))), (mh, .inl (cZ, 60, .inl (upd gh j (gh (j + k))))), (ms, .inl (cI, 60, .inl fs)), (me, .inl (cI, 12, .inl se)), (mp, .inl (cI, 60, .inl pl)), (mc, .inl (cI, 3721, .inl co)), (ml, .inl (cI, 3721, .inl le)), (mb, .inl (cI, 61, .inl be)), (md, .inl (cI, 61, .inl en)), (mr, .inl (cI, 60, .inl re))] H := hP
      have hD : va_D A [(o7, .inr (7, [.int (nI 0), .int (nI (n - k)), .ref mv, .ref mh, .int (nI len), .int (nI ll), .int pen, .int bf, .int bl, .int (nI cn), .ref ms, .int mid, .ref me, .ref mp, .ref mc, .ref ml, .ref mb, .ref md, .ref mr, .int spr])), (mv, .inl (cI, 60, .inl (upd g j (g (j + k))))), (mh, .inl (cZ, 60, .inl (upd gh j (gh (j + k))))), (ms, .inl (cI, 60, .inl fs)), (me, .inl (cI, 12, .inl se)), (mp, .inl (cI, 60, .inl pl)), (mc, .inl (cI, 3721, .inl co)), (ml, .inl (cI, 3721, .inl le)), (mb, .inl (cI, 61, .inl be)), (md, .inl (cI, 61, .inl en)), (mr, .inl (cI, 60, .inl re))] := hD
      refine lv_iinc (v := nI (j + 1)) (lv' := [(2, .int (nI (j + 1))), (0, .ref o7), (1, .int (nI k))]) hx hb dX7_drop_71 hl (k := 0) rfl (by exact nI_add _ 1) (by decide) rfl (fun ls hl => ?_)
      refine lv_goto (tgt := 35) hx hb dX7_drop_74 (by decide) ?_
      exact ih_3 _ (by omega) _ _ _ ⟨(j + 1), _, _, rfl, by omega, fun i q => by
            by_cases e9 : i = j
            · rw [e9, pk_us]; exact h3 _ (by omega)
            · rw [pk_un e9]; exact h1 i (by omega), fun i q => by
            by_cases e9 : i = j
            · rw [e9, pk_us]; exact h4 _ (by omega)
            · rw [pk_un e9]; exact h2 i (by omega), fun i q => by rw [pk_un (by omega)]; exact h3 i (by omega), fun i q => by rw [pk_un (by omega)]; exact h4 i (by omega), hP, hD, hS, lv_sub hl [0, 1, 2] rfl⟩
  · skip
    have c14 := keq (a := 1) (b := 0) c14 (by omega) (by omega)
    omega

set_option maxHeartbeats 4000000 in
set_option maxRecDepth 100000 in
theorem c_X7_setSeason (l : Launch) (D : va_G) (cI cZ cJ : ClassId) (sz : Nat)  (v hf : Nat → Int32) (n len ll : Nat) (pen bf bl th : Int32)  (o7 : Nat) (w6 : va_W) (t : Nat) (hok : kOk v hf n len ll pen bf bl) (hst : kMd cI cZ v hf n len ll pen bf bl th 0 o7 w6) (ht1 : 1 ≤ t) (ht2 : t ≤ 12) : Met l yX7_setSeason wsX7_setSeason ({ frames := 8, cells := 0, slots := 0, locals := 330 }) (va_Pc [.ref o7, .int (nI t)] (kPre D (tyA cI cZ cJ) sz w6)) (va_Qi (fun (r : Int32) (w2 : va_W) => r = nI len ∧ kMd cI cZ v hf n t ll pen bf bl (nI 0) 0 o7 w2) (kPost D (tyA cI cZ cJ) (va_A w6 sz) (fun (w2 : va_W) => w2)) (va_A w6 sz)) 0 0 (va_A w6 sz) := by
  refine kMd_open hst ?_
  intro mv mh cn ms me mp mc ml mb md mr mid spr fs se pl co le be en re e9w hv1 hv2 hv3
  clear hst
  subst e9w
  obtain ⟨hn, hbit, hln1, hln2, hll, hlm, hvb, hpb, hbb, hfb⟩ := id hok
  refine kOfW (cc := cX7_setSeason) (maxL := 3) (ret := (some .int)) (fun A => va_Qi (fun (r : Int32) (w2 : va_W) => r = nI len ∧ kMd cI cZ v hf n t ll pen bf bl (nI 0) 0 o7 w2) (kPost D (tyA cI cZ cJ) (A) (fun (w2 : va_W) => w2)) (A)) (by decide) rfl (Nat.le_of_ble_eq_true rfl) ?_
  intro p_ e_ s m_ below_ meth_ c_ A ls hx hb hr hml hts hown hlocks hin hA hP hK hD hsz hl
  have hS : va_S A s.heap s.heap [] := va_S.rf
  have hl : lv_has ls 3 [(0, .ref o7), (1, .int (nI t))] := hl
  have hinX7 : ∀ w ∈ wsX70, w ∈ wsX7_setSeason := fun w h => List.mem_cons_of_mem _ (List.mem_append_right _ h)
  refine lv_aload_n hx hb dX7_setSeason_0 rfl (lv_at hl 0 rfl) ?_
  refine lv_iconst (v := nI 0) hx hb dX7_setSeason_1 (by decide) ?_
  refine va_put (D := D) (ci := 7) (v := .int (nI 0)) (ty := .int) (C := RX7) (T := TX7) (N := 20) hx hb hts hinX7 tyX7 tyX7_ok nmX7 hown hK hP hD hS 0 rfl rfl 0 (by decide) (hts (.fieldLink RX7 57 "SeriesWatcherModel" "thrown" "I") (by decide +kernel)) (fun _ h9 => h9) rfl (by decide +kernel) rfl rfl (Nat.le_of_ble_eq_true rfl) dX7_setSeason_2 (fun H locs hP hD hS => ?_)
  have hP : va_P D vwCl [(o7, .inr (7, [.int (nI 0), .int (nI n), .ref mv, .ref mh, .int (nI len), .int (nI ll), .int pen, .int bf, .int bl, .int (nI cn), .ref ms, .int mid, .ref me, .ref mp, .ref mc, .ref ml, .ref mb, .ref md, .ref mr, .int spr])), (mv, .inl (cI, 60, .inl v)), (mh, .inl (cZ, 60, .inl hf)), (ms, .inl (cI, 60, .inl fs)), (me, .inl (cI, 12, .inl se)), (mp, .inl (cI, 60, .inl pl)), (mc, .inl (cI, 3721, .inl co)), (ml, .inl (cI, 3721, .inl le)), (mb, .inl (cI, 61, .inl be)), (md, .inl (cI, 61, .inl en)), (mr, .inl (cI, 60, .inl re))] H := hP
  have hD : va_D A [(o7, .inr (7, [.int (nI 0), .int (nI n), .ref mv, .ref mh, .int (nI len), .int (nI ll), .int pen, .int bf, .int bl, .int (nI cn), .ref ms, .int mid, .ref me, .ref mp, .ref mc, .ref ml, .ref mb, .ref md, .ref mr, .int spr])), (mv, .inl (cI, 60, .inl v)), (mh, .inl (cZ, 60, .inl hf)), (ms, .inl (cI, 60, .inl fs)), (me, .inl (cI, 12, .inl se)), (mp, .inl (cI, 60, .inl pl)), (mc, .inl (cI, 3721, .inl co)), (ml, .inl (cI, 3721, .inl le)), (mb, .inl (cI, 61, .inl be)), (md, .inl (cI, 61, .inl en)), (mr, .inl (cI, 60, .inl re))] := hD
  refine lv_iload_n hx hb dX7_setSeason_5 rfl (lv_at hl 1 rfl) ?_
  refine lv_iconst (v := nI 1) hx hb dX7_setSeason_6 (by decide) ?_
  refine lv_bipush (v := nI 12) hx hb dX7_setSeason_7 (by decide) ?_
  refine kci (wr := [(o7, .inr (7, [.int (nI 0), .int (nI n), .ref mv, .ref mh, .int (nI len), .int (nI ll), .int pen, .int bf, .int bl, .int (nI cn), .ref ms, .int mid, .ref me, .ref mp, .ref mc, .ref ml, .ref mb, .ref md, .ref mr, .int spr])), (mv, .inl (cI, 60, .inl v)), (mh, .inl (cZ, 60, .inl hf)), (ms, .inl (cI, 60, .inl fs)), (me, .inl (cI, 12, .inl se)), (mp, .inl (cI, 60, .inl pl)), (mc, .inl (cI, 3721, .inl co)), (ml, .inl (cI, 3721, .inl le)), (mb, .inl (cI, 61, .inl be)), (md, .inl (cI, 61, .inl en)), (mr, .inl (cI, 60, .inl re))]) (pre := []) (va_runS (As := [.int (nI t), .int (nI 1), .int (nI 12)]) (rest := []) ⟨hx, hb, hml, hown, hts⟩ (c_X7_in l D cI cZ cJ H.size (nI t) (nI 1) (nI 12) ) (va_cwS 3 hts gX7_setSeason_X7_in rfl rfl rfl (by decide +kernel) ⟨Nat.le_of_ble_eq_true rfl, Nat.le_of_ble_eq_true rfl⟩) (kpreS hK hP hD [] (by decide +kernel) rfl) rfl rfl hl.1 rfl (lv_room (Nat.le_of_ble_eq_true rfl)) dX7_setSeason_9 ⟨Nat.zero_le _, Nat.zero_le _⟩) hP hD hS hA [] [0, 1, 2, 3, 4, 5, 6, 7, 8, 9, 10] rfl rfl (by decide +kernel) (by decide +kernel) (fun r_1 _ H locs hw hP hD hS => ?_)
  have hP : va_P D vwCl [(o7, .inr (7, [.int (nI 0), .int (nI n), .ref mv, .ref mh, .int (nI len), .int (nI ll), .int pen, .int bf, .int bl, .int (nI cn), .ref ms, .int mid, .ref me, .ref mp, .ref mc, .ref ml, .ref mb, .ref md, .ref mr, .int spr])), (mv, .inl (cI, 60, .inl v)), (mh, .inl (cZ, 60, .inl hf)), (ms, .inl (cI, 60, .inl fs)), (me, .inl (cI, 12, .inl se)), (mp, .inl (cI, 60, .inl pl)), (mc, .inl (cI, 3721, .inl co)), (ml, .inl (cI, 3721, .inl le)), (mb, .inl (cI, 61, .inl be)), (md, .inl (cI, 61, .inl en)), (mr, .inl (cI, 60, .inl re))] H := hP
  have hD : va_D A [(o7, .inr (7, [.int (nI 0), .int (nI n), .ref mv, .ref mh, .int (nI len), .int (nI ll), .int pen, .int bf, .int bl, .int (nI cn), .ref ms, .int mid, .ref me, .ref mp, .ref mc, .ref ml, .ref mb, .ref md, .ref mr, .int spr])), (mv, .inl (cI, 60, .inl v)), (mh, .inl (cZ, 60, .inl hf)), (ms, .inl (cI, 60, .inl fs)), (me, .inl (cI, 12, .inl se)), (mp, .inl (cI, 60, .inl pl)), (mc, .inl (cI, 3721, .inl co)), (ml, .inl (cI, 3721, .inl le)), (mb, .inl (cI, 61, .inl be)), (md, .inl (cI, 61, .inl en)), (mr, .inl (cI, 60, .inl re))] := hD
  have hr9 : r_1 = kin (nI t) (nI 1) (nI 12) := hw
  refine wt_i hr9 ?_
  refine wt_i (y := nI 1) (kin_le ht1 ht2 (by omega)) ?_
  refine lv_if_ne (tgt := 21) hx hb dX7_setSeason_12 (by decide) (fun c12 => ?_) (fun c12 => ?_)
  · skip
    have c12 := kneq (a := 1) (b := 0) c12 (by omega) (by omega)
    refine lv_aload_n hx hb dX7_setSeason_21 rfl (lv_at hl 0 rfl) ?_
    refine va_get (D := D) (ci := 7) (v := .int (nI len)) (C := RX7) (T := TX7) (N := 20) hx hb hts hinX7 hown hK hP 0 rfl rfl 4 (by decide) (hts (.fieldLink RX7 17 "SeriesWatcherModel" "length" "I") (by decide +kernel)) (fun _ h9 => h9) rfl dX7_setSeason_22 ?_
    refine lv_istore_n (lv' := [(2, .int (nI len)), (0, .ref o7), (1, .int (nI t))]) hx hb dX7_setSeason_25 rfl hl (by decide) rfl (fun ls hl => ?_)
    refine lv_aload_n hx hb dX7_setSeason_26 rfl (lv_at hl 1 rfl) ?_
    refine lv_iload_n hx hb dX7_setSeason_27 rfl (lv_at hl 2 rfl) ?_
    refine va_put (D := D) (ci := 7) (v := .int (nI t)) (ty := .int) (C := RX7) (T := TX7) (N := 20) hx hb hts hinX7 tyX7 tyX7_ok nmX7 hown hK hP hD hS 0 rfl rfl 4 (by decide) (hts (.fieldLink RX7 17 "SeriesWatcherModel" "length" "I") (by decide +kernel)) (fun _ h9 => h9) rfl (by decide +kernel) rfl rfl (Nat.le_of_ble_eq_true rfl) dX7_setSeason_28 (fun H locs hP hD hS => ?_)
    have hP : va_P D vwCl [(o7, .inr (7, [.int (nI 0), .int (nI n), .ref mv, .ref mh, .int (nI t), .int (nI ll), .int pen, .int bf, .int bl, .int (nI cn), .ref ms, .int mid, .ref me, .ref mp, .ref mc, .ref ml, .ref mb, .ref md, .ref mr, .int spr])), (mv, .inl (cI, 60, .inl v)), (mh, .inl (cZ, 60, .inl hf)), (ms, .inl (cI, 60, .inl fs)), (me, .inl (cI, 12, .inl se)), (mp, .inl (cI, 60, .inl pl)), (mc, .inl (cI, 3721, .inl co)), (ml, .inl (cI, 3721, .inl le)), (mb, .inl (cI, 61, .inl be)), (md, .inl (cI, 61, .inl en)), (mr, .inl (cI, 60, .inl re))] H := hP
    have hD : va_D A [(o7, .inr (7, [.int (nI 0), .int (nI n), .ref mv, .ref mh, .int (nI t), .int (nI ll), .int pen, .int bf, .int bl, .int (nI cn), .ref ms, .int mid, .ref me, .ref mp, .ref mc, .ref ml, .ref mb, .ref md, .ref mr, .int spr])), (mv, .inl (cI, 60, .inl v)), (mh, .inl (cZ, 60, .inl hf)), (ms, .inl (cI, 60, .inl fs)), (me, .inl (cI, 12, .inl se)), (mp, .inl (cI, 60, .inl pl)), (mc, .inl (cI, 3721, .inl co)), (ml, .inl (cI, 3721, .inl le)), (mb, .inl (cI, 61, .inl be)), (md, .inl (cI, 61, .inl en)), (mr, .inl (cI, 60, .inl re))] := hD
    refine lv_iload_n hx hb dX7_setSeason_31 rfl (lv_at hl 0 rfl) ?_
    exact kri hx hb hr hlocks hP hK hD hS [(o7, .inr (7, [.int (nI 0), .int (nI n), .ref mv, .ref mh, .int (nI t), .int (nI ll), .int pen, .int bf, .int bl, .int (nI cn), .ref ms, .int mid, .ref me, .ref mp, .ref mc, .ref ml, .ref mb, .ref md, .ref mr, .int spr])), (mv, .inl (cI, 60, .inl v)), (mh, .inl (cZ, 60, .inl hf)), (ms, .inl (cI, 60, .inl fs)), (me, .inl (cI, 12, .inl se)), (mp, .inl (cI, 60, .inl pl)), (mc, .inl (cI, 3721, .inl co)), (ml, .inl (cI, 3721, .inl le)), (mb, .inl (cI, 61, .inl be)), (md, .inl (cI, 61, .inl en)), (mr, .inl (cI, 60, .inl re))] (⟨rfl, kMd_mk (fun h => absurd h (by decide)) (fun h => absurd h (by decide)) (fun h => absurd h (by decide))⟩) [0, 1, 2, 3, 4, 5, 6, 7, 8, 9, 10] (by decide +kernel) rfl dX7_setSeason_32
  · skip
    have c12 := keq (a := 1) (b := 0) c12 (by omega) (by omega)
    omega

set_option maxHeartbeats 4000000 in
set_option maxRecDepth 100000 in
theorem c_X7_setCuts (l : Launch) (D : va_G) (cI cZ cJ : ClassId) (sz : Nat)  (v hf : Nat → Int32) (n len ll : Nat) (pen bf bl th : Int32)  (o7 : Nat) (w6 : va_W) (t : Nat) (y : Int32) (hok : kOk v hf n len ll pen bf bl) (hst : kMd cI cZ v hf n len ll pen bf bl th 0 o7 w6) (ht1 : 1 ≤ t) (ht2 : t ≤ 10) (hy9 : kin y (nI 0) (nI 100000) = nI 1) : Met l yX7_setCuts wsX7_setCuts ({ frames := 8, cells := 0, slots := 0, locals := 330 }) (va_Pc [.ref o7, .int (nI t), .int y] (kPre D (tyA cI cZ cJ) sz w6)) (va_Qv (fun (w2 : va_W) => kMd cI cZ v hf n len t y bf bl (nI 0) 0 o7 w2) (kPost D (tyA cI cZ cJ) (va_A w6 sz) (fun (w2 : va_W) => w2)) (va_A w6 sz)) 0 0 (va_A w6 sz) := by
  refine kMd_open hst ?_
  intro mv mh cn ms me mp mc ml mb md mr mid spr fs se pl co le be en re e9w hv1 hv2 hv3
  clear hst
  subst e9w
  obtain ⟨hn, hbit, hln1, hln2, hll, hlm, hvb, hpb, hbb, hfb⟩ := id hok
  refine kOfW (cc := cX7_setCuts) (maxL := 3) (ret := none) (fun A => va_Qv (fun (w2 : va_W) => kMd cI cZ v hf n len t y bf bl (nI 0) 0 o7 w2) (kPost D (tyA cI cZ cJ) (A) (fun (w2 : va_W) => w2)) (A)) (by decide) rfl (Nat.le_of_ble_eq_true rfl) ?_
  intro p_ e_ s m_ below_ meth_ c_ A ls hx hb hr hml hts hown hlocks hin hA hP hK hD hsz hl
  have hS : va_S A s.heap s.heap [] := va_S.rf
  have hl : lv_has ls 3 [(0, .ref o7), (1, .int (nI t)), (2, .int y)] := hl
  have hinX7 : ∀ w ∈ wsX70, w ∈ wsX7_setCuts := fun w h => List.mem_cons_of_mem _ (List.mem_append_right _ h)
  refine lv_aload_n hx hb dX7_setCuts_0 rfl (lv_at hl 0 rfl) ?_
  refine lv_iload_n hx hb dX7_setCuts_1 rfl (lv_at hl 1 rfl) ?_
  refine lv_iconst (v := nI 1) hx hb dX7_setCuts_2 (by decide) ?_
  refine lv_bipush (v := nI 10) hx hb dX7_setCuts_3 (by decide) ?_
  refine kci (wr := [(o7, .inr (7, [.int th, .int (nI n), .ref mv, .ref mh, .int (nI len), .int (nI ll), .int pen, .int bf, .int bl, .int (nI cn), .ref ms, .int mid, .ref me, .ref mp, .ref mc, .ref ml, .ref mb, .ref md, .ref mr, .int spr])), (mv, .inl (cI, 60, .inl v)), (mh, .inl (cZ, 60, .inl hf)), (ms, .inl (cI, 60, .inl fs)), (me, .inl (cI, 12, .inl se)), (mp, .inl (cI, 60, .inl pl)), (mc, .inl (cI, 3721, .inl co)), (ml, .inl (cI, 3721, .inl le)), (mb, .inl (cI, 61, .inl be)), (md, .inl (cI, 61, .inl en)), (mr, .inl (cI, 60, .inl re))]) (pre := []) (va_runS (As := [.int (nI t), .int (nI 1), .int (nI 10)]) (rest := [.ref o7]) ⟨hx, hb, hml, hown, hts⟩ (c_X7_in l D cI cZ cJ s.heap.size (nI t) (nI 1) (nI 10) ) (va_cwS 3 hts gX7_setCuts_X7_in rfl rfl rfl (by decide +kernel) ⟨Nat.le_of_ble_eq_true rfl, Nat.le_of_ble_eq_true rfl⟩) (kpreS hK hP hD [] (by decide +kernel) rfl) rfl rfl hl.1 rfl (lv_room (Nat.le_of_ble_eq_true rfl)) dX7_setCuts_5 ⟨Nat.zero_le _, Nat.zero_le _⟩) hP hD hS hA [] [0, 1, 2, 3, 4, 5, 6, 7, 8, 9, 10] rfl rfl (by decide +kernel) (by decide +kernel) (fun r_1 _ H locs hw hP hD hS => ?_)
  have hP : va_P D vwCl [(o7, .inr (7, [.int th, .int (nI n), .ref mv, .ref mh, .int (nI len), .int (nI ll), .int pen, .int bf, .int bl, .int (nI cn), .ref ms, .int mid, .ref me, .ref mp, .ref mc, .ref ml, .ref mb, .ref md, .ref mr, .int spr])), (mv, .inl (cI, 60, .inl v)), (mh, .inl (cZ, 60, .inl hf)), (ms, .inl (cI, 60, .inl fs)), (me, .inl (cI, 12, .inl se)), (mp, .inl (cI, 60, .inl pl)), (mc, .inl (cI, 3721, .inl co)), (ml, .inl (cI, 3721, .inl le)), (mb, .inl (cI, 61, .inl be)), (md, .inl (cI, 61, .inl en)), (mr, .inl (cI, 60, .inl re))] H := hP
  have hD : va_D A [(o7, .inr (7, [.int th, .int (nI n), .ref mv, .ref mh, .int (nI len), .int (nI ll), .int pen, .int bf, .int bl, .int (nI cn), .ref ms, .int mid, .ref me, .ref mp, .ref mc, .ref ml, .ref mb, .ref md, .ref mr, .int spr])), (mv, .inl (cI, 60, .inl v)), (mh, .inl (cZ, 60, .inl hf)), (ms, .inl (cI, 60, .inl fs)), (me, .inl (cI, 12, .inl se)), (mp, .inl (cI, 60, .inl pl)), (mc, .inl (cI, 3721, .inl co)), (ml, .inl (cI, 3721, .inl le)), (mb, .inl (cI, 61, .inl be)), (md, .inl (cI, 61, .inl en)), (mr, .inl (cI, 60, .inl re))] := hD
  have hr9 : r_1 = kin (nI t) (nI 1) (nI 10) := hw
  refine wt_i hr9 ?_
  refine wt_i (y := nI 1) (kin_le ht1 ht2 (by omega)) ?_
  refine lv_if_eq (tgt := 25) hx hb dX7_setCuts_8 (by decide) (fun c8 => ?_) (fun c8 => ?_)
  · skip
    have c8 := keq (a := 1) (b := 0) c8 (by omega) (by omega)
    omega
  · skip
    have c8 := kneq (a := 1) (b := 0) c8 (by omega) (by omega)
    refine lv_iload_n hx hb dX7_setCuts_11 rfl (lv_at hl 2 rfl) ?_
    refine lv_iconst (v := nI 0) hx hb dX7_setCuts_12 (by decide) ?_
    refine lv_ldc (v := nI 100000) hx hb hown (hts (.constant RX7 114 (100000)) (by decide +kernel)) dX7_setCuts_13 ?_
    refine kci (wr := [(o7, .inr (7, [.int th, .int (nI n), .ref mv, .ref mh, .int (nI len), .int (nI ll), .int pen, .int bf, .int bl, .int (nI cn), .ref ms, .int mid, .ref me, .ref mp, .ref mc, .ref ml, .ref mb, .ref md, .ref mr, .int spr])), (mv, .inl (cI, 60, .inl v)), (mh, .inl (cZ, 60, .inl hf)), (ms, .inl (cI, 60, .inl fs)), (me, .inl (cI, 12, .inl se)), (mp, .inl (cI, 60, .inl pl)), (mc, .inl (cI, 3721, .inl co)), (ml, .inl (cI, 3721, .inl le)), (mb, .inl (cI, 61, .inl be)), (md, .inl (cI, 61, .inl en)), (mr, .inl (cI, 60, .inl re))]) (pre := []) (va_runS (As := [.int y, .int (nI 0), .int (nI 100000)]) (rest := [.ref o7]) ⟨hx, hb, hml, hown, hts⟩ (c_X7_in l D cI cZ cJ H.size y (nI 0) (nI 100000) ) (va_cwS 3 hts gX7_setCuts_X7_in rfl rfl rfl (by decide +kernel) ⟨Nat.le_of_ble_eq_true rfl, Nat.le_of_ble_eq_true rfl⟩) (kpreS hK hP hD [] (by decide +kernel) rfl) rfl rfl hl.1 rfl (lv_room (Nat.le_of_ble_eq_true rfl)) dX7_setCuts_15 ⟨Nat.zero_le _, Nat.zero_le _⟩) hP hD hS hA [] [0, 1, 2, 3, 4, 5, 6, 7, 8, 9, 10] rfl rfl (by decide +kernel) (by decide +kernel) (fun r_3 _ H locs hw hP hD hS => ?_)
    have hP : va_P D vwCl [(o7, .inr (7, [.int th, .int (nI n), .ref mv, .ref mh, .int (nI len), .int (nI ll), .int pen, .int bf, .int bl, .int (nI cn), .ref ms, .int mid, .ref me, .ref mp, .ref mc, .ref ml, .ref mb, .ref md, .ref mr, .int spr])), (mv, .inl (cI, 60, .inl v)), (mh, .inl (cZ, 60, .inl hf)), (ms, .inl (cI, 60, .inl fs)), (me, .inl (cI, 12, .inl se)), (mp, .inl (cI, 60, .inl pl)), (mc, .inl (cI, 3721, .inl co)), (ml, .inl (cI, 3721, .inl le)), (mb, .inl (cI, 61, .inl be)), (md, .inl (cI, 61, .inl en)), (mr, .inl (cI, 60, .inl re))] H := hP
    have hD : va_D A [(o7, .inr (7, [.int th, .int (nI n), .ref mv, .ref mh, .int (nI len), .int (nI ll), .int pen, .int bf, .int bl, .int (nI cn), .ref ms, .int mid, .ref me, .ref mp, .ref mc, .ref ml, .ref mb, .ref md, .ref mr, .int spr])), (mv, .inl (cI, 60, .inl v)), (mh, .inl (cZ, 60, .inl hf)), (ms, .inl (cI, 60, .inl fs)), (me, .inl (cI, 12, .inl se)), (mp, .inl (cI, 60, .inl pl)), (mc, .inl (cI, 3721, .inl co)), (ml, .inl (cI, 3721, .inl le)), (mb, .inl (cI, 61, .inl be)), (md, .inl (cI, 61, .inl en)), (mr, .inl (cI, 60, .inl re))] := hD
    have hr9 : r_3 = kin y (nI 0) (nI 100000) := hw
    refine wt_i hr9 ?_
    refine wt_i (y := nI 1) (hy9) ?_
    refine lv_if_eq (tgt := 25) hx hb dX7_setCuts_18 (by decide) (fun c18 => ?_) (fun c18 => ?_)
    · skip
      have c18 := keq (a := 1) (b := 0) c18 (by omega) (by omega)
      omega
    · skip
      have c18 := kneq (a := 1) (b := 0) c18 (by omega) (by omega)
      refine lv_iconst (v := nI 0) hx hb dX7_setCuts_21 (by decide) ?_
      refine lv_goto (tgt := 26) hx hb dX7_setCuts_22 (by decide) ?_
      refine va_put (D := D) (ci := 7) (v := .int (nI 0)) (ty := .int) (C := RX7) (T := TX7) (N := 20) hx hb hts hinX7 tyX7 tyX7_ok nmX7 hown hK hP hD hS 0 rfl rfl 0 (by decide) (hts (.fieldLink RX7 57 "SeriesWatcherModel" "thrown" "I") (by decide +kernel)) (fun _ h9 => h9) rfl (by decide +kernel) rfl rfl (Nat.le_of_ble_eq_true rfl) dX7_setCuts_26 (fun H locs hP hD hS => ?_)
      have hP : va_P D vwCl [(o7, .inr (7, [.int (nI 0), .int (nI n), .ref mv, .ref mh, .int (nI len), .int (nI ll), .int pen, .int bf, .int bl, .int (nI cn), .ref ms, .int mid, .ref me, .ref mp, .ref mc, .ref ml, .ref mb, .ref md, .ref mr, .int spr])), (mv, .inl (cI, 60, .inl v)), (mh, .inl (cZ, 60, .inl hf)), (ms, .inl (cI, 60, .inl fs)), (me, .inl (cI, 12, .inl se)), (mp, .inl (cI, 60, .inl pl)), (mc, .inl (cI, 3721, .inl co)), (ml, .inl (cI, 3721, .inl le)), (mb, .inl (cI, 61, .inl be)), (md, .inl (cI, 61, .inl en)), (mr, .inl (cI, 60, .inl re))] H := hP
      have hD : va_D A [(o7, .inr (7, [.int (nI 0), .int (nI n), .ref mv, .ref mh, .int (nI len), .int (nI ll), .int pen, .int bf, .int bl, .int (nI cn), .ref ms, .int mid, .ref me, .ref mp, .ref mc, .ref ml, .ref mb, .ref md, .ref mr, .int spr])), (mv, .inl (cI, 60, .inl v)), (mh, .inl (cZ, 60, .inl hf)), (ms, .inl (cI, 60, .inl fs)), (me, .inl (cI, 12, .inl se)), (mp, .inl (cI, 60, .inl pl)), (mc, .inl (cI, 3721, .inl co)), (ml, .inl (cI, 3721, .inl le)), (mb, .inl (cI, 61, .inl be)), (md, .inl (cI, 61, .inl en)), (mr, .inl (cI, 60, .inl re))] := hD
      refine lv_aload_n hx hb dX7_setCuts_29 rfl (lv_at hl 0 rfl) ?_
      refine va_get (D := D) (ci := 7) (v := .int (nI 0)) (C := RX7) (T := TX7) (N := 20) hx hb hts hinX7 hown hK hP 0 rfl rfl 0 (by decide) (hts (.fieldLink RX7 57 "SeriesWatcherModel" "thrown" "I") (by decide +kernel)) (fun _ h9 => h9) rfl dX7_setCuts_30 ?_
      refine lv_if_ne (tgt := 46) hx hb dX7_setCuts_33 (by decide) (fun c33 => ?_) (fun c33 => ?_)
      · skip
        have c33 := kneq (a := 0) (b := 0) c33 (by omega) (by omega)
        omega
      · skip
        have c33 := keq (a := 0) (b := 0) c33 (by omega) (by omega)
        refine lv_aload_n hx hb dX7_setCuts_36 rfl (lv_at hl 0 rfl) ?_
        refine lv_iload_n hx hb dX7_setCuts_37 rfl (lv_at hl 1 rfl) ?_
        refine va_put (D := D) (ci := 7) (v := .int (nI t)) (ty := .int) (C := RX7) (T := TX7) (N := 20) hx hb hts hinX7 tyX7 tyX7_ok nmX7 hown hK hP hD hS 0 rfl rfl 5 (by decide) (hts (.fieldLink RX7 21 "SeriesWatcherModel" "least" "I") (by decide +kernel)) (fun _ h9 => h9) rfl (by decide +kernel) rfl rfl (Nat.le_of_ble_eq_true rfl) dX7_setCuts_38 (fun H locs hP hD hS => ?_)
        have hP : va_P D vwCl [(o7, .inr (7, [.int (nI 0), .int (nI n), .ref mv, .ref mh, .int (nI len), .int (nI t), .int pen, .int bf, .int bl, .int (nI cn), .ref ms, .int mid, .ref me, .ref mp, .ref mc, .ref ml, .ref mb, .ref md, .ref mr, .int spr])), (mv, .inl (cI, 60, .inl v)), (mh, .inl (cZ, 60, .inl hf)), (ms, .inl (cI, 60, .inl fs)), (me, .inl (cI, 12, .inl se)), (mp, .inl (cI, 60, .inl pl)), (mc, .inl (cI, 3721, .inl co)), (ml, .inl (cI, 3721, .inl le)), (mb, .inl (cI, 61, .inl be)), (md, .inl (cI, 61, .inl en)), (mr, .inl (cI, 60, .inl re))] H := hP
        have hD : va_D A [(o7, .inr (7, [.int (nI 0), .int (nI n), .ref mv, .ref mh, .int (nI len), .int (nI t), .int pen, .int bf, .int bl, .int (nI cn), .ref ms, .int mid, .ref me, .ref mp, .ref mc, .ref ml, .ref mb, .ref md, .ref mr, .int spr])), (mv, .inl (cI, 60, .inl v)), (mh, .inl (cZ, 60, .inl hf)), (ms, .inl (cI, 60, .inl fs)), (me, .inl (cI, 12, .inl se)), (mp, .inl (cI, 60, .inl pl)), (mc, .inl (cI, 3721, .inl co)), (ml, .inl (cI, 3721, .inl le)), (mb, .inl (cI, 61, .inl be)), (md, .inl (cI, 61, .inl en)), (mr, .inl (cI, 60, .inl re))] := hD
        refine lv_aload_n hx hb dX7_setCuts_41 rfl (lv_at hl 0 rfl) ?_
        refine lv_iload_n hx hb dX7_setCuts_42 rfl (lv_at hl 2 rfl) ?_
        refine va_put (D := D) (ci := 7) (v := .int y) (ty := .int) (C := RX7) (T := TX7) (N := 20) hx hb hts hinX7 tyX7 tyX7_ok nmX7 hown hK hP hD hS 0 rfl rfl 6 (by decide) (hts (.fieldLink RX7 24 "SeriesWatcherModel" "penalty" "I") (by decide +kernel)) (fun _ h9 => h9) rfl (by decide +kernel) rfl rfl (Nat.le_of_ble_eq_true rfl) dX7_setCuts_43 (fun H locs hP hD hS => ?_)
        have hP : va_P D vwCl [(o7, .inr (7, [.int (nI 0), .int (nI n), .ref mv, .ref mh, .int (nI len), .int (nI t), .int y, .int bf, .int bl, .int (nI cn), .ref ms, .int mid, .ref me, .ref mp, .ref mc, .ref ml, .ref mb, .ref md, .ref mr, .int spr])), (mv, .inl (cI, 60, .inl v)), (mh, .inl (cZ, 60, .inl hf)), (ms, .inl (cI, 60, .inl fs)), (me, .inl (cI, 12, .inl se)), (mp, .inl (cI, 60, .inl pl)), (mc, .inl (cI, 3721, .inl co)), (ml, .inl (cI, 3721, .inl le)), (mb, .inl (cI, 61, .inl be)), (md, .inl (cI, 61, .inl en)), (mr, .inl (cI, 60, .inl re))] H := hP
        have hD : va_D A [(o7, .inr (7, [.int (nI 0), .int (nI n), .ref mv, .ref mh, .int (nI len), .int (nI t), .int y, .int bf, .int bl, .int (nI cn), .ref ms, .int mid, .ref me, .ref mp, .ref mc, .ref ml, .ref mb, .ref md, .ref mr, .int spr])), (mv, .inl (cI, 60, .inl v)), (mh, .inl (cZ, 60, .inl hf)), (ms, .inl (cI, 60, .inl fs)), (me, .inl (cI, 12, .inl se)), (mp, .inl (cI, 60, .inl pl)), (mc, .inl (cI, 3721, .inl co)), (ml, .inl (cI, 3721, .inl le)), (mb, .inl (cI, 61, .inl be)), (md, .inl (cI, 61, .inl en)), (mr, .inl (cI, 60, .inl re))] := hD
        exact krv hx hb hr hlocks hP hK hD hS [(o7, .inr (7, [.int (nI 0), .int (nI n), .ref mv, .ref mh, .int (nI len), .int (nI t), .int y, .int bf, .int bl, .int (nI cn), .ref ms, .int mid, .ref me, .ref mp, .ref mc, .ref ml, .ref mb, .ref md, .ref mr, .int spr])), (mv, .inl (cI, 60, .inl v)), (mh, .inl (cZ, 60, .inl hf)), (ms, .inl (cI, 60, .inl fs)), (me, .inl (cI, 12, .inl se)), (mp, .inl (cI, 60, .inl pl)), (mc, .inl (cI, 3721, .inl co)), (ml, .inl (cI, 3721, .inl le)), (mb, .inl (cI, 61, .inl be)), (md, .inl (cI, 61, .inl en)), (mr, .inl (cI, 60, .inl re))] (kMd_mk (fun h => absurd h (by decide)) (fun h => absurd h (by decide)) (fun h => absurd h (by decide))) [0, 1, 2, 3, 4, 5, 6, 7, 8, 9, 10] (by decide +kernel) rfl dX7_setCuts_46

set_option maxHeartbeats 4000000 in
set_option maxRecDepth 100000 in
theorem c_X7_setBound (l : Launch) (D : va_G) (cI cZ cJ : ClassId) (sz : Nat)  (v hf : Nat → Int32) (n len ll : Nat) (pen bf bl th : Int32)  (o7 : Nat) (w6 : va_W) (x y : Int32) (hok : kOk v hf n len ll pen bf bl) (hst : kMd cI cZ v hf n len ll pen bf bl th 0 o7 w6) (hx9 : kin x (nI 100) (nI 2000) = nI 1) (hy9 : kin y (nI 0) (nI 1000) = nI 1) : Met l yX7_setBound wsX7_setBound ({ frames := 8, cells := 0, slots := 0, locals := 330 }) (va_Pc [.ref o7, .int x, .int y] (kPre D (tyA cI cZ cJ) sz w6)) (va_Qv (fun (w2 : va_W) => kMd cI cZ v hf n len ll pen x y (nI 0) 0 o7 w2) (kPost D (tyA cI cZ cJ) (va_A w6 sz) (fun (w2 : va_W) => w2)) (va_A w6 sz)) 0 0 (va_A w6 sz) := by
  refine kMd_open hst ?_
  intro mv mh cn ms me mp mc ml mb md mr mid spr fs se pl co le be en re e9w hv1 hv2 hv3
  clear hst
  subst e9w
  obtain ⟨hn, hbit, hln1, hln2, hll, hlm, hvb, hpb, hbb, hfb⟩ := id hok
  refine kOfW (cc := cX7_setBound) (maxL := 3) (ret := none) (fun A => va_Qv (fun (w2 : va_W) => kMd cI cZ v hf n len ll pen x y (nI 0) 0 o7 w2) (kPost D (tyA cI cZ cJ) (A) (fun (w2 : va_W) => w2)) (A)) (by decide) rfl (Nat.le_of_ble_eq_true rfl) ?_
  intro p_ e_ s m_ below_ meth_ c_ A ls hx hb hr hml hts hown hlocks hin hA hP hK hD hsz hl
  have hS : va_S A s.heap s.heap [] := va_S.rf
  have hl : lv_has ls 3 [(0, .ref o7), (1, .int x), (2, .int y)] := hl
  have hinX7 : ∀ w ∈ wsX70, w ∈ wsX7_setBound := fun w h => List.mem_cons_of_mem _ (List.mem_append_right _ h)
  refine lv_aload_n hx hb dX7_setBound_0 rfl (lv_at hl 0 rfl) ?_
  refine lv_iload_n hx hb dX7_setBound_1 rfl (lv_at hl 1 rfl) ?_
  refine lv_bipush (v := nI 100) hx hb dX7_setBound_2 (by decide) ?_
  refine lv_sipush (v := nI 2000) hx hb dX7_setBound_4 (by decide) ?_
  refine kci (wr := [(o7, .inr (7, [.int th, .int (nI n), .ref mv, .ref mh, .int (nI len), .int (nI ll), .int pen, .int bf, .int bl, .int (nI cn), .ref ms, .int mid, .ref me, .ref mp, .ref mc, .ref ml, .ref mb, .ref md, .ref mr, .int spr])), (mv, .inl (cI, 60, .inl v)), (mh, .inl (cZ, 60, .inl hf)), (ms, .inl (cI, 60, .inl fs)), (me, .inl (cI, 12, .inl se)), (mp, .inl (cI, 60, .inl pl)), (mc, .inl (cI, 3721, .inl co)), (ml, .inl (cI, 3721, .inl le)), (mb, .inl (cI, 61, .inl be)), (md, .inl (cI, 61, .inl en)), (mr, .inl (cI, 60, .inl re))]) (pre := []) (va_runS (As := [.int x, .int (nI 100), .int (nI 2000)]) (rest := [.ref o7]) ⟨hx, hb, hml, hown, hts⟩ (c_X7_in l D cI cZ cJ s.heap.size x (nI 100) (nI 2000) ) (va_cwS 3 hts gX7_setBound_X7_in rfl rfl rfl (by decide +kernel) ⟨Nat.le_of_ble_eq_true rfl, Nat.le_of_ble_eq_true rfl⟩) (kpreS hK hP hD [] (by decide +kernel) rfl) rfl rfl hl.1 rfl (lv_room (Nat.le_of_ble_eq_true rfl)) dX7_setBound_7 ⟨Nat.zero_le _, Nat.zero_le _⟩) hP hD hS hA [] [0, 1, 2, 3, 4, 5, 6, 7, 8, 9, 10] rfl rfl (by decide +kernel) (by decide +kernel) (fun r_1 _ H locs hw hP hD hS => ?_)
  have hP : va_P D vwCl [(o7, .inr (7, [.int th, .int (nI n), .ref mv, .ref mh, .int (nI len), .int (nI ll), .int pen, .int bf, .int bl, .int (nI cn), .ref ms, .int mid, .ref me, .ref mp, .ref mc, .ref ml, .ref mb, .ref md, .ref mr, .int spr])), (mv, .inl (cI, 60, .inl v)), (mh, .inl (cZ, 60, .inl hf)), (ms, .inl (cI, 60, .inl fs)), (me, .inl (cI, 12, .inl se)), (mp, .inl (cI, 60, .inl pl)), (mc, .inl (cI, 3721, .inl co)), (ml, .inl (cI, 3721, .inl le)), (mb, .inl (cI, 61, .inl be)), (md, .inl (cI, 61, .inl en)), (mr, .inl (cI, 60, .inl re))] H := hP
  have hD : va_D A [(o7, .inr (7, [.int th, .int (nI n), .ref mv, .ref mh, .int (nI len), .int (nI ll), .int pen, .int bf, .int bl, .int (nI cn), .ref ms, .int mid, .ref me, .ref mp, .ref mc, .ref ml, .ref mb, .ref md, .ref mr, .int spr])), (mv, .inl (cI, 60, .inl v)), (mh, .inl (cZ, 60, .inl hf)), (ms, .inl (cI, 60, .inl fs)), (me, .inl (cI, 12, .inl se)), (mp, .inl (cI, 60, .inl pl)), (mc, .inl (cI, 3721, .inl co)), (ml, .inl (cI, 3721, .inl le)), (mb, .inl (cI, 61, .inl be)), (md, .inl (cI, 61, .inl en)), (mr, .inl (cI, 60, .inl re))] := hD
  have hr9 : r_1 = kin x (nI 100) (nI 2000) := hw
  refine wt_i hr9 ?_
  refine wt_i (y := nI 1) (hx9) ?_
  refine lv_if_eq (tgt := 28) hx hb dX7_setBound_10 (by decide) (fun c10 => ?_) (fun c10 => ?_)
  · skip
    have c10 := keq (a := 1) (b := 0) c10 (by omega) (by omega)
    omega
  · skip
    have c10 := kneq (a := 1) (b := 0) c10 (by omega) (by omega)
    refine lv_iload_n hx hb dX7_setBound_13 rfl (lv_at hl 2 rfl) ?_
    refine lv_iconst (v := nI 0) hx hb dX7_setBound_14 (by decide) ?_
    refine lv_sipush (v := nI 1000) hx hb dX7_setBound_15 (by decide) ?_
    refine kci (wr := [(o7, .inr (7, [.int th, .int (nI n), .ref mv, .ref mh, .int (nI len), .int (nI ll), .int pen, .int bf, .int bl, .int (nI cn), .ref ms, .int mid, .ref me, .ref mp, .ref mc, .ref ml, .ref mb, .ref md, .ref mr, .int spr])), (mv, .inl (cI, 60, .inl v)), (mh, .inl (cZ, 60, .inl hf)), (ms, .inl (cI, 60, .inl fs)), (me, .inl (cI, 12, .inl se)), (mp, .inl (cI, 60, .inl pl)), (mc, .inl (cI, 3721, .inl co)), (ml, .inl (cI, 3721, .inl le)), (mb, .inl (cI, 61, .inl be)), (md, .inl (cI, 61, .inl en)), (mr, .inl (cI, 60, .inl re))]) (pre := []) (va_runS (As := [.int y, .int (nI 0), .int (nI 1000)]) (rest := [.ref o7]) ⟨hx, hb, hml, hown, hts⟩ (c_X7_in l D cI cZ cJ H.size y (nI 0) (nI 1000) ) (va_cwS 3 hts gX7_setBound_X7_in rfl rfl rfl (by decide +kernel) ⟨Nat.le_of_ble_eq_true rfl, Nat.le_of_ble_eq_true rfl⟩) (kpreS hK hP hD [] (by decide +kernel) rfl) rfl rfl hl.1 rfl (lv_room (Nat.le_of_ble_eq_true rfl)) dX7_setBound_18 ⟨Nat.zero_le _, Nat.zero_le _⟩) hP hD hS hA [] [0, 1, 2, 3, 4, 5, 6, 7, 8, 9, 10] rfl rfl (by decide +kernel) (by decide +kernel) (fun r_3 _ H locs hw hP hD hS => ?_)
    have hP : va_P D vwCl [(o7, .inr (7, [.int th, .int (nI n), .ref mv, .ref mh, .int (nI len), .int (nI ll), .int pen, .int bf, .int bl, .int (nI cn), .ref ms, .int mid, .ref me, .ref mp, .ref mc, .ref ml, .ref mb, .ref md, .ref mr, .int spr])), (mv, .inl (cI, 60, .inl v)), (mh, .inl (cZ, 60, .inl hf)), (ms, .inl (cI, 60, .inl fs)), (me, .inl (cI, 12, .inl se)), (mp, .inl (cI, 60, .inl pl)), (mc, .inl (cI, 3721, .inl co)), (ml, .inl (cI, 3721, .inl le)), (mb, .inl (cI, 61, .inl be)), (md, .inl (cI, 61, .inl en)), (mr, .inl (cI, 60, .inl re))] H := hP
    have hD : va_D A [(o7, .inr (7, [.int th, .int (nI n), .ref mv, .ref mh, .int (nI len), .int (nI ll), .int pen, .int bf, .int bl, .int (nI cn), .ref ms, .int mid, .ref me, .ref mp, .ref mc, .ref ml, .ref mb, .ref md, .ref mr, .int spr])), (mv, .inl (cI, 60, .inl v)), (mh, .inl (cZ, 60, .inl hf)), (ms, .inl (cI, 60, .inl fs)), (me, .inl (cI, 12, .inl se)), (mp, .inl (cI, 60, .inl pl)), (mc, .inl (cI, 3721, .inl co)), (ml, .inl (cI, 3721, .inl le)), (mb, .inl (cI, 61, .inl be)), (md, .inl (cI, 61, .inl en)), (mr, .inl (cI, 60, .inl re))] := hD
    have hr9 : r_3 = kin y (nI 0) (nI 1000) := hw
    refine wt_i hr9 ?_
    refine wt_i (y := nI 1) (hy9) ?_
    refine lv_if_eq (tgt := 28) hx hb dX7_setBound_21 (by decide) (fun c21 => ?_) (fun c21 => ?_)
    · skip
      have c21 := keq (a := 1) (b := 0) c21 (by omega) (by omega)
      omega
    · skip
      have c21 := kneq (a := 1) (b := 0) c21 (by omega) (by omega)
      refine lv_iconst (v := nI 0) hx hb dX7_setBound_24 (by decide) ?_
      refine lv_goto (tgt := 29) hx hb dX7_setBound_25 (by decide) ?_
      refine va_put (D := D) (ci := 7) (v := .int (nI 0)) (ty := .int) (C := RX7) (T := TX7) (N := 20) hx hb hts hinX7 tyX7 tyX7_ok nmX7 hown hK hP hD hS 0 rfl rfl 0 (by decide) (hts (.fieldLink RX7 57 "SeriesWatcherModel" "thrown" "I") (by decide +kernel)) (fun _ h9 => h9) rfl (by decide +kernel) rfl rfl (Nat.le_of_ble_eq_true rfl) dX7_setBound_29 (fun H locs hP hD hS => ?_)
      have hP : va_P D vwCl [(o7, .inr (7, [.int (nI 0), .int (nI n), .ref mv, .ref mh, .int (nI len), .int (nI ll), .int pen, .int bf, .int bl, .int (nI cn), .ref ms, .int mid, .ref me, .ref mp, .ref mc, .ref ml, .ref mb, .ref md, .ref mr, .int spr])), (mv, .inl (cI, 60, .inl v)), (mh, .inl (cZ, 60, .inl hf)), (ms, .inl (cI, 60, .inl fs)), (me, .inl (cI, 12, .inl se)), (mp, .inl (cI, 60, .inl pl)), (mc, .inl (cI, 3721, .inl co)), (ml, .inl (cI, 3721, .inl le)), (mb, .inl (cI, 61, .inl be)), (md, .inl (cI, 61, .inl en)), (mr, .inl (cI, 60, .inl re))] H := hP
      have hD : va_D A [(o7, .inr (7, [.int (nI 0), .int (nI n), .ref mv, .ref mh, .int (nI len), .int (nI ll), .int pen, .int bf, .int bl, .int (nI cn), .ref ms, .int mid, .ref me, .ref mp, .ref mc, .ref ml, .ref mb, .ref md, .ref mr, .int spr])), (mv, .inl (cI, 60, .inl v)), (mh, .inl (cZ, 60, .inl hf)), (ms, .inl (cI, 60, .inl fs)), (me, .inl (cI, 12, .inl se)), (mp, .inl (cI, 60, .inl pl)), (mc, .inl (cI, 3721, .inl co)), (ml, .inl (cI, 3721, .inl le)), (mb, .inl (cI, 61, .inl be)), (md, .inl (cI, 61, .inl en)), (mr, .inl (cI, 60, .inl re))] := hD
      refine lv_aload_n hx hb dX7_setBound_32 rfl (lv_at hl 0 rfl) ?_
      refine va_get (D := D) (ci := 7) (v := .int (nI 0)) (C := RX7) (T := TX7) (N := 20) hx hb hts hinX7 hown hK hP 0 rfl rfl 0 (by decide) (hts (.fieldLink RX7 57 "SeriesWatcherModel" "thrown" "I") (by decide +kernel)) (fun _ h9 => h9) rfl dX7_setBound_33 ?_
      refine lv_if_ne (tgt := 49) hx hb dX7_setBound_36 (by decide) (fun c36 => ?_) (fun c36 => ?_)
      · skip
        have c36 := kneq (a := 0) (b := 0) c36 (by omega) (by omega)
        omega
      · skip
        have c36 := keq (a := 0) (b := 0) c36 (by omega) (by omega)
        refine lv_aload_n hx hb dX7_setBound_39 rfl (lv_at hl 0 rfl) ?_
        refine lv_iload_n hx hb dX7_setBound_40 rfl (lv_at hl 1 rfl) ?_
        refine va_put (D := D) (ci := 7) (v := .int x) (ty := .int) (C := RX7) (T := TX7) (N := 20) hx hb hts hinX7 tyX7 tyX7_ok nmX7 hown hK hP hD hS 0 rfl rfl 7 (by decide) (hts (.fieldLink RX7 27 "SeriesWatcherModel" "factor" "I") (by decide +kernel)) (fun _ h9 => h9) rfl (by decide +kernel) rfl rfl (Nat.le_of_ble_eq_true rfl) dX7_setBound_41 (fun H locs hP hD hS => ?_)
        have hP : va_P D vwCl [(o7, .inr (7, [.int (nI 0), .int (nI n), .ref mv, .ref mh, .int (nI len), .int (nI ll), .int pen, .int x, .int bl, .int (nI cn), .ref ms, .int mid, .ref me, .ref mp, .ref mc, .ref ml, .ref mb, .ref md, .ref mr, .int spr])), (mv, .inl (cI, 60, .inl v)), (mh, .inl (cZ, 60, .inl hf)), (ms, .inl (cI, 60, .inl fs)), (me, .inl (cI, 12, .inl se)), (mp, .inl (cI, 60, .inl pl)), (mc, .inl (cI, 3721, .inl co)), (ml, .inl (cI, 3721, .inl le)), (mb, .inl (cI, 61, .inl be)), (md, .inl (cI, 61, .inl en)), (mr, .inl (cI, 60, .inl re))] H := hP
        have hD : va_D A [(o7, .inr (7, [.int (nI 0), .int (nI n), .ref mv, .ref mh, .int (nI len), .int (nI ll), .int pen, .int x, .int bl, .int (nI cn), .ref ms, .int mid, .ref me, .ref mp, .ref mc, .ref ml, .ref mb, .ref md, .ref mr, .int spr])), (mv, .inl (cI, 60, .inl v)), (mh, .inl (cZ, 60, .inl hf)), (ms, .inl (cI, 60, .inl fs)), (me, .inl (cI, 12, .inl se)), (mp, .inl (cI, 60, .inl pl)), (mc, .inl (cI, 3721, .inl co)), (ml, .inl (cI, 3721, .inl le)), (mb, .inl (cI, 61, .inl be)), (md, .inl (cI, 61, .inl en)), (mr, .inl (cI, 60, .inl re))] := hD
        refine lv_aload_n hx hb dX7_setBound_44 rfl (lv_at hl 0 rfl) ?_
        refine lv_iload_n hx hb dX7_setBound_45 rfl (lv_at hl 2 rfl) ?_
        refine va_put (D := D) (ci := 7) (v := .int y) (ty := .int) (C := RX7) (T := TX7) (N := 20) hx hb hts hinX7 tyX7 tyX7_ok nmX7 hown hK hP hD hS 0 rfl rfl 8 (by decide) (hts (.fieldLink RX7 30 "SeriesWatcherModel" "floor" "I") (by decide +kernel)) (fun _ h9 => h9) rfl (by decide +kernel) rfl rfl (Nat.le_of_ble_eq_true rfl) dX7_setBound_46 (fun H locs hP hD hS => ?_)
        have hP : va_P D vwCl [(o7, .inr (7, [.int (nI 0), .int (nI n), .ref mv, .ref mh, .int (nI len), .int (nI ll), .int pen, .int x, .int y, .int (nI cn), .ref ms, .int mid, .ref me, .ref mp, .ref mc, .ref ml, .ref mb, .ref md, .ref mr, .int spr])), (mv, .inl (cI, 60, .inl v)), (mh, .inl (cZ, 60, .inl hf)), (ms, .inl (cI, 60, .inl fs)), (me, .inl (cI, 12, .inl se)), (mp, .inl (cI, 60, .inl pl)), (mc, .inl (cI, 3721, .inl co)), (ml, .inl (cI, 3721, .inl le)), (mb, .inl (cI, 61, .inl be)), (md, .inl (cI, 61, .inl en)), (mr, .inl (cI, 60, .inl re))] H := hP
        have hD : va_D A [(o7, .inr (7, [.int (nI 0), .int (nI n), .ref mv, .ref mh, .int (nI len), .int (nI ll), .int pen, .int x, .int y, .int (nI cn), .ref ms, .int mid, .ref me, .ref mp, .ref mc, .ref ml, .ref mb, .ref md, .ref mr, .int spr])), (mv, .inl (cI, 60, .inl v)), (mh, .inl (cZ, 60, .inl hf)), (ms, .inl (cI, 60, .inl fs)), (me, .inl (cI, 12, .inl se)), (mp, .inl (cI, 60, .inl pl)), (mc, .inl (cI, 3721, .inl co)), (ml, .inl (cI, 3721, .inl le)), (mb, .inl (cI, 61, .inl be)), (md, .inl (cI, 61, .inl en)), (mr, .inl (cI, 60, .inl re))] := hD
        exact krv hx hb hr hlocks hP hK hD hS [(o7, .inr (7, [.int (nI 0), .int (nI n), .ref mv, .ref mh, .int (nI len), .int (nI ll), .int pen, .int x, .int y, .int (nI cn), .ref ms, .int mid, .ref me, .ref mp, .ref mc, .ref ml, .ref mb, .ref md, .ref mr, .int spr])), (mv, .inl (cI, 60, .inl v)), (mh, .inl (cZ, 60, .inl hf)), (ms, .inl (cI, 60, .inl fs)), (me, .inl (cI, 12, .inl se)), (mp, .inl (cI, 60, .inl pl)), (mc, .inl (cI, 3721, .inl co)), (ml, .inl (cI, 3721, .inl le)), (mb, .inl (cI, 61, .inl be)), (md, .inl (cI, 61, .inl en)), (mr, .inl (cI, 60, .inl re))] (kMd_mk (fun h => absurd h (by decide)) (fun h => absurd h (by decide)) (fun h => absurd h (by decide))) [0, 1, 2, 3, 4, 5, 6, 7, 8, 9, 10] (by decide +kernel) rfl dX7_setBound_49

set_option maxHeartbeats 4000000 in
set_option maxRecDepth 100000 in
theorem c_X7_size (l : Launch) (D : va_G) (cI cZ cJ : ClassId) (sz : Nat)  (v hf : Nat → Int32) (n len ll : Nat) (pen bf bl th : Int32)  (o7 : Nat) (w6 : va_W)  (hok : kOk v hf n len ll pen bf bl) (hst : kMd cI cZ v hf n len ll pen bf bl th 0 o7 w6) : Met l yX7_size wsX7_size ({ frames := 8, cells := 0, slots := 0, locals := 330 }) (va_Pc [.ref o7] (kPre D (tyA cI cZ cJ) sz w6)) (va_Qi (fun (r : Int32) (w2 : va_W) => r = nI n ∧ kMd cI cZ v hf n len ll pen bf bl (nI 0) 0 o7 w2) (kPost D (tyA cI cZ cJ) (va_A w6 sz) (fun (w2 : va_W) => w2)) (va_A w6 sz)) 0 0 (va_A w6 sz) := by
  refine kMd_open hst ?_
  intro mv mh cn ms me mp mc ml mb md mr mid spr fs se pl co le be en re e9w hv1 hv2 hv3
  clear hst
  subst e9w
  obtain ⟨hn, hbit, hln1, hln2, hll, hlm, hvb, hpb, hbb, hfb⟩ := id hok
  refine kOfW (cc := cX7_size) (maxL := 1) (ret := (some .int)) (fun A => va_Qi (fun (r : Int32) (w2 : va_W) => r = nI n ∧ kMd cI cZ v hf n len ll pen bf bl (nI 0) 0 o7 w2) (kPost D (tyA cI cZ cJ) (A) (fun (w2 : va_W) => w2)) (A)) (by decide) rfl (Nat.le_of_ble_eq_true rfl) ?_
  intro p_ e_ s m_ below_ meth_ c_ A ls hx hb hr hml hts hown hlocks hin hA hP hK hD hsz hl
  have hS : va_S A s.heap s.heap [] := va_S.rf
  have hl : lv_has ls 1 [(0, .ref o7)] := hl
  have hinX7 : ∀ w ∈ wsX70, w ∈ wsX7_size := fun w h => List.mem_cons_of_mem _ (List.mem_append_right _ h)
  refine lv_aload_n hx hb dX7_size_0 rfl (lv_at hl 0 rfl) ?_
  refine lv_iconst (v := nI 0) hx hb dX7_size_1 (by decide) ?_
  refine va_put (D := D) (ci := 7) (v := .int (nI 0)) (ty := .int) (C := RX7) (T := TX7) (N := 20) hx hb hts hinX7 tyX7 tyX7_ok nmX7 hown hK hP hD hS 0 rfl rfl 0 (by decide) (hts (.fieldLink RX7 57 "SeriesWatcherModel" "thrown" "I") (by decide +kernel)) (fun _ h9 => h9) rfl (by decide +kernel) rfl rfl (Nat.le_of_ble_eq_true rfl) dX7_size_2 (fun H locs hP hD hS => ?_)
  have hP : va_P D vwCl [(o7, .inr (7, [.int (nI 0), .int (nI n), .ref mv, .ref mh, .int (nI len), .int (nI ll), .int pen, .int bf, .int bl, .int (nI cn), .ref ms, .int mid, .ref me, .ref mp, .ref mc, .ref ml, .ref mb, .ref md, .ref mr, .int spr])), (mv, .inl (cI, 60, .inl v)), (mh, .inl (cZ, 60, .inl hf)), (ms, .inl (cI, 60, .inl fs)), (me, .inl (cI, 12, .inl se)), (mp, .inl (cI, 60, .inl pl)), (mc, .inl (cI, 3721, .inl co)), (ml, .inl (cI, 3721, .inl le)), (mb, .inl (cI, 61, .inl be)), (md, .inl (cI, 61, .inl en)), (mr, .inl (cI, 60, .inl re))] H := hP
  have hD : va_D A [(o7, .inr (7, [.int (nI 0), .int (nI n), .ref mv, .ref mh, .int (nI len), .int (nI ll), .int pen, .int bf, .int bl, .int (nI cn), .ref ms, .int mid, .ref me, .ref mp, .ref mc, .ref ml, .ref mb, .ref md, .ref mr, .int spr])), (mv, .inl (cI, 60, .inl v)), (mh, .inl (cZ, 60, .inl hf)), (ms, .inl (cI, 60, .inl fs)), (me, .inl (cI, 12, .inl se)), (mp, .inl (cI, 60, .inl pl)), (mc, .inl (cI, 3721, .inl co)), (ml, .inl (cI, 3721, .inl le)), (mb, .inl (cI, 61, .inl be)), (md, .inl (cI, 61, .inl en)), (mr, .inl (cI, 60, .inl re))] := hD
  refine lv_aload_n hx hb dX7_size_5 rfl (lv_at hl 0 rfl) ?_
  refine va_get (D := D) (ci := 7) (v := .int (nI n)) (C := RX7) (T := TX7) (N := 20) hx hb hts hinX7 hown hK hP 0 rfl rfl 1 (by decide) (hts (.fieldLink RX7 60 "SeriesWatcherModel" "many" "I") (by decide +kernel)) (fun _ h9 => h9) rfl dX7_size_6 ?_
  exact kri hx hb hr hlocks hP hK hD hS [(o7, .inr (7, [.int (nI 0), .int (nI n), .ref mv, .ref mh, .int (nI len), .int (nI ll), .int pen, .int bf, .int bl, .int (nI cn), .ref ms, .int mid, .ref me, .ref mp, .ref mc, .ref ml, .ref mb, .ref md, .ref mr, .int spr])), (mv, .inl (cI, 60, .inl v)), (mh, .inl (cZ, 60, .inl hf)), (ms, .inl (cI, 60, .inl fs)), (me, .inl (cI, 12, .inl se)), (mp, .inl (cI, 60, .inl pl)), (mc, .inl (cI, 3721, .inl co)), (ml, .inl (cI, 3721, .inl le)), (mb, .inl (cI, 61, .inl be)), (md, .inl (cI, 61, .inl en)), (mr, .inl (cI, 60, .inl re))] (⟨rfl, kMd_mk (fun h => absurd h (by decide)) (fun h => absurd h (by decide)) (fun h => absurd h (by decide))⟩) [0, 1, 2, 3, 4, 5, 6, 7, 8, 9, 10] (by decide +kernel) rfl dX7_size_9

set_option maxHeartbeats 4000000 in
set_option maxRecDepth 100000 in
theorem c_X7_value (l : Launch) (D : va_G) (cI cZ cJ : ClassId) (sz : Nat)  (v hf : Nat → Int32) (n len ll : Nat) (pen bf bl th : Int32)  (o7 : Nat) (w6 : va_W) (k : Nat) (hok : kOk v hf n len ll pen bf bl) (hst : kMd cI cZ v hf n len ll pen bf bl th 0 o7 w6) (hk : k < n) : Met l yX7_value wsX7_value ({ frames := 8, cells := 0, slots := 0, locals := 330 }) (va_Pc [.ref o7, .int (nI k)] (kPre D (tyA cI cZ cJ) sz w6)) (va_Qi (fun (r : Int32) (w2 : va_W) => r = v k ∧ kMd cI cZ v hf n len ll pen bf bl (nI 0) 0 o7 w2) (kPost D (tyA cI cZ cJ) (va_A w6 sz) (fun (w2 : va_W) => w2)) (va_A w6 sz)) 0 0 (va_A w6 sz) := by
  refine kMd_open hst ?_
  intro mv mh cn ms me mp mc ml mb md mr mid spr fs se pl co le be en re e9w hv1 hv2 hv3
  clear hst
  subst e9w
  obtain ⟨hn, hbit, hln1, hln2, hll, hlm, hvb, hpb, hbb, hfb⟩ := id hok
  refine kOfW (cc := cX7_value) (maxL := 2) (ret := (some .int)) (fun A => va_Qi (fun (r : Int32) (w2 : va_W) => r = v k ∧ kMd cI cZ v hf n len ll pen bf bl (nI 0) 0 o7 w2) (kPost D (tyA cI cZ cJ) (A) (fun (w2 : va_W) => w2)) (A)) (by decide) rfl (Nat.le_of_ble_eq_true rfl) ?_
  intro p_ e_ s m_ below_ meth_ c_ A ls hx hb hr hml hts hown hlocks hin hA hP hK hD hsz hl
  have hS : va_S A s.heap s.heap [] := va_S.rf
  have hl : lv_has ls 2 [(0, .ref o7), (1, .int (nI k))] := hl
  have hinX7 : ∀ w ∈ wsX70, w ∈ wsX7_value := fun w h => List.mem_cons_of_mem _ (List.mem_append_right _ h)
  refine lv_aload_n hx hb dX7_value_0 rfl (lv_at hl 0 rfl) ?_
  refine lv_iconst (v := nI 0) hx hb dX7_value_1 (by decide) ?_
  refine va_put (D := D) (ci := 7) (v := .int (nI 0)) (ty := .int) (C := RX7) (T := TX7) (N := 20) hx hb hts hinX7 tyX7 tyX7_ok nmX7 hown hK hP hD hS 0 rfl rfl 0 (by decide) (hts (.fieldLink RX7 57 "SeriesWatcherModel" "thrown" "I") (by decide +kernel)) (fun _ h9 => h9) rfl (by decide +kernel) rfl rfl (Nat.le_of_ble_eq_true rfl) dX7_value_2 (fun H locs hP hD hS => ?_)
  have hP : va_P D vwCl [(o7, .inr (7, [.int (nI 0), .int (nI n), .ref mv, .ref mh, .int (nI len), .int (nI ll), .int pen, .int bf, .int bl, .int (nI cn), .ref ms, .int mid, .ref me, .ref mp, .ref mc, .ref ml, .ref mb, .ref md, .ref mr, .int spr])), (mv, .inl (cI, 60, .inl v)), (mh, .inl (cZ, 60, .inl hf)), (ms, .inl (cI, 60, .inl fs)), (me, .inl (cI, 12, .inl se)), (mp, .inl (cI, 60, .inl pl)), (mc, .inl (cI, 3721, .inl co)), (ml, .inl (cI, 3721, .inl le)), (mb, .inl (cI, 61, .inl be)), (md, .inl (cI, 61, .inl en)), (mr, .inl (cI, 60, .inl re))] H := hP
  have hD : va_D A [(o7, .inr (7, [.int (nI 0), .int (nI n), .ref mv, .ref mh, .int (nI len), .int (nI ll), .int pen, .int bf, .int bl, .int (nI cn), .ref ms, .int mid, .ref me, .ref mp, .ref mc, .ref ml, .ref mb, .ref md, .ref mr, .int spr])), (mv, .inl (cI, 60, .inl v)), (mh, .inl (cZ, 60, .inl hf)), (ms, .inl (cI, 60, .inl fs)), (me, .inl (cI, 12, .inl se)), (mp, .inl (cI, 60, .inl pl)), (mc, .inl (cI, 3721, .inl co)), (ml, .inl (cI, 3721, .inl le)), (mb, .inl (cI, 61, .inl be)), (md, .inl (cI, 61, .inl en)), (mr, .inl (cI, 60, .inl re))] := hD
  refine lv_aload_n hx hb dX7_value_5 rfl (lv_at hl 0 rfl) ?_
  refine lv_iload_n hx hb dX7_value_6 rfl (lv_at hl 1 rfl) ?_
  refine kci (wr := [(mv, .inl (cI, 60, .inl v)), (mh, .inl (cZ, 60, .inl hf)), (ms, .inl (cI, 60, .inl fs)), (me, .inl (cI, 12, .inl se)), (mp, .inl (cI, 60, .inl pl)), (mc, .inl (cI, 3721, .inl co)), (ml, .inl (cI, 3721, .inl le)), (mb, .inl (cI, 61, .inl be)), (md, .inl (cI, 61, .inl en)), (mr, .inl (cI, 60, .inl re))]) (pre := [(o7, .inr (7, [.int (nI 0), .int (nI n), .ref mv, .ref mh, .int (nI len), .int (nI ll), .int pen, .int bf, .int bl, .int (nI cn), .ref ms, .int mid, .ref me, .ref mp, .ref mc, .ref ml, .ref mb, .ref md, .ref mr, .int spr]))]) (va_runV (As := [.int (nI k)]) (rest := []) ⟨hx, hb, hml, hown, hts⟩ (c_X7_isValue l D cI cZ cJ H.size o7 (nI 0) n mv mh len ll pen bf bl cn ms mid me mp mc ml mb md mr spr (nI k) ) (cwV 1 hts gX7_value_X7_isValue rfl rfl rfl (by decide +kernel) ⟨Nat.le_of_ble_eq_true rfl, Nat.le_of_ble_eq_true rfl⟩) (kpreV hK hP hD (ci := 7) (q0 := 0) rfl rfl [0] (by decide +kernel) rfl) rfl rfl hl.1 rfl (lv_room (Nat.le_of_ble_eq_true rfl)) dX7_value_7 ⟨Nat.zero_le _, Nat.zero_le _⟩) hP hD hS hA [0] [1, 2, 3, 4, 5, 6, 7, 8, 9, 10] rfl rfl (by decide +kernel) (by decide +kernel) (fun r_1 _ H locs hw hP hD hS => ?_)
  have hP : va_P D vwCl [(mv, .inl (cI, 60, .inl v)), (mh, .inl (cZ, 60, .inl hf)), (ms, .inl (cI, 60, .inl fs)), (me, .inl (cI, 12, .inl se)), (mp, .inl (cI, 60, .inl pl)), (mc, .inl (cI, 3721, .inl co)), (ml, .inl (cI, 3721, .inl le)), (mb, .inl (cI, 61, .inl be)), (md, .inl (cI, 61, .inl en)), (mr, .inl (cI, 60, .inl re)), (o7, .inr (7, [.int (nI 0), .int (nI n), .ref mv, .ref mh, .int (nI len), .int (nI ll), .int pen, .int bf, .int bl, .int (nI cn), .ref ms, .int mid, .ref me, .ref mp, .ref mc, .ref ml, .ref mb, .ref md, .ref mr, .int spr]))] H := hP
  have hD : va_D A [(mv, .inl (cI, 60, .inl v)), (mh, .inl (cZ, 60, .inl hf)), (ms, .inl (cI, 60, .inl fs)), (me, .inl (cI, 12, .inl se)), (mp, .inl (cI, 60, .inl pl)), (mc, .inl (cI, 3721, .inl co)), (ml, .inl (cI, 3721, .inl le)), (mb, .inl (cI, 61, .inl be)), (md, .inl (cI, 61, .inl en)), (mr, .inl (cI, 60, .inl re)), (o7, .inr (7, [.int (nI 0), .int (nI n), .ref mv, .ref mh, .int (nI len), .int (nI ll), .int pen, .int bf, .int bl, .int (nI cn), .ref ms, .int mid, .ref me, .ref mp, .ref mc, .ref ml, .ref mb, .ref md, .ref mr, .int spr]))] := hD
  have hr9 : r_1 = kin (nI k) (nI 0) (nI n - nI 1) := hw
  refine wt_i hr9 ?_
  refine wt_i (y := nI 1) (kin_ok hn hk) ?_
  refine lv_if_eq (tgt := 22) hx hb dX7_value_10 (by decide) (fun c10 => ?_) (fun c10 => ?_)
  · skip
    have c10 := keq (a := 1) (b := 0) c10 (by omega) (by omega)
    omega
  · skip
    have c10 := kneq (a := 1) (b := 0) c10 (by omega) (by omega)
    refine lv_aload_n hx hb dX7_value_13 rfl (lv_at hl 0 rfl) ?_
    refine va_get (D := D) (ci := 7) (v := .ref mv) (C := RX7) (T := TX7) (N := 20) hx hb hts hinX7 hown hK hP 10 rfl rfl 2 (by decide) (hts (.fieldLink RX7 7 "SeriesWatcherModel" "value" "[I") (by decide +kernel)) (fun _ h9 => h9) rfl dX7_value_14 ?_
    refine lv_iload_n hx hb dX7_value_17 rfl (lv_at hl 1 rfl) ?_
    refine va_iald (D := D) hx hb hK hP 0 0 rfl rfl (vp_in_nI (by omega) (by decide)) dX7_value_18 ?_
    refine wt_i (by rw [nI_clamp (n := k) (by omega)]) ?_
    refine lv_goto (tgt := 27) hx hb dX7_value_19 (by decide) ?_
    exact kri hx hb hr hlocks hP hK hD hS [(o7, .inr (7, [.int (nI 0), .int (nI n), .ref mv, .ref mh, .int (nI len), .int (nI ll), .int pen, .int bf, .int bl, .int (nI cn), .ref ms, .int mid, .ref me, .ref mp, .ref mc, .ref ml, .ref mb, .ref md, .ref mr, .int spr])), (mv, .inl (cI, 60, .inl v)), (mh, .inl (cZ, 60, .inl hf)), (ms, .inl (cI, 60, .inl fs)), (me, .inl (cI, 12, .inl se)), (mp, .inl (cI, 60, .inl pl)), (mc, .inl (cI, 3721, .inl co)), (ml, .inl (cI, 3721, .inl le)), (mb, .inl (cI, 61, .inl be)), (md, .inl (cI, 61, .inl en)), (mr, .inl (cI, 60, .inl re))] (⟨rfl, kMd_mk (fun h => absurd h (by decide)) (fun h => absurd h (by decide)) (fun h => absurd h (by decide))⟩) [10, 0, 1, 2, 3, 4, 5, 6, 7, 8, 9] (by decide +kernel) rfl dX7_value_27

set_option maxHeartbeats 4000000 in
set_option maxRecDepth 100000 in
theorem c_X7_base (l : Launch) (D : va_G) (cI cZ cJ : ClassId) (sz : Nat)  (v hf : Nat → Int32) (n len ll : Nat) (pen bf bl th : Int32)  (o7 : Nat) (w6 : va_W)  (hok : kOk v hf n len ll pen bf bl) (hst : kMd cI cZ v hf n len ll pen bf bl th 0 o7 w6) : Met l yX7_base wsX7_base ({ frames := 8, cells := 0, slots := 0, locals := 330 }) (va_Pc [.ref o7] (kPre D (tyA cI cZ cJ) sz w6)) (va_Qi (fun (r : Int32) (w2 : va_W) => r = kBase v hf n ∧ kMd cI cZ v hf n len ll pen bf bl (nI 0) 0 o7 w2) (kPost D (tyA cI cZ cJ) (va_A w6 sz) (fun (w2 : va_W) => w2)) (va_A w6 sz)) 0 0 (va_A w6 sz) := by
  refine kMd_open hst ?_
  intro mv mh cn ms me mp mc ml mb md mr mid spr fs se pl co le be en re e9w hv1 hv2 hv3
  clear hst
  subst e9w
  obtain ⟨hn, hbit, hln1, hln2, hll, hlm, hvb, hpb, hbb, hfb⟩ := id hok
  refine kOfW (cc := cX7_base) (maxL := 1) (ret := (some .int)) (fun A => va_Qi (fun (r : Int32) (w2 : va_W) => r = kBase v hf n ∧ kMd cI cZ v hf n len ll pen bf bl (nI 0) 0 o7 w2) (kPost D (tyA cI cZ cJ) (A) (fun (w2 : va_W) => w2)) (A)) (by decide) rfl (Nat.le_of_ble_eq_true rfl) ?_
  intro p_ e_ s m_ below_ meth_ c_ A ls hx hb hr hml hts hown hlocks hin hA hP hK hD hsz hl
  have hS : va_S A s.heap s.heap [] := va_S.rf
  have hl : lv_has ls 1 [(0, .ref o7)] := hl
  have hinX7 : ∀ w ∈ wsX70, w ∈ wsX7_base := fun w h => List.mem_cons_of_mem _ (List.mem_append_right _ h)
  refine lv_aload_n hx hb dX7_base_0 rfl (lv_at hl 0 rfl) ?_
  refine lv_iconst (v := nI 0) hx hb dX7_base_1 (by decide) ?_
  refine va_put (D := D) (ci := 7) (v := .int (nI 0)) (ty := .int) (C := RX7) (T := TX7) (N := 20) hx hb hts hinX7 tyX7 tyX7_ok nmX7 hown hK hP hD hS 0 rfl rfl 0 (by decide) (hts (.fieldLink RX7 57 "SeriesWatcherModel" "thrown" "I") (by decide +kernel)) (fun _ h9 => h9) rfl (by decide +kernel) rfl rfl (Nat.le_of_ble_eq_true rfl) dX7_base_2 (fun H locs hP hD hS => ?_)
  have hP : va_P D vwCl [(o7, .inr (7, [.int (nI 0), .int (nI n), .ref mv, .ref mh, .int (nI len), .int (nI ll), .int pen, .int bf, .int bl, .int (nI cn), .ref ms, .int mid, .ref me, .ref mp, .ref mc, .ref ml, .ref mb, .ref md, .ref mr, .int spr])), (mv, .inl (cI, 60, .inl v)), (mh, .inl (cZ, 60, .inl hf)), (ms, .inl (cI, 60, .inl fs)), (me, .inl (cI, 12, .inl se)), (mp, .inl (cI, 60, .inl pl)), (mc, .inl (cI, 3721, .inl co)), (ml, .inl (cI, 3721, .inl le)), (mb, .inl (cI, 61, .inl be)), (md, .inl (cI, 61, .inl en)), (mr, .inl (cI, 60, .inl re))] H := hP
  have hD : va_D A [(o7, .inr (7, [.int (nI 0), .int (nI n), .ref mv, .ref mh, .int (nI len), .int (nI ll), .int pen, .int bf, .int bl, .int (nI cn), .ref ms, .int mid, .ref me, .ref mp, .ref mc, .ref ml, .ref mb, .ref md, .ref mr, .int spr])), (mv, .inl (cI, 60, .inl v)), (mh, .inl (cZ, 60, .inl hf)), (ms, .inl (cI, 60, .inl fs)), (me, .inl (cI, 12, .inl se)), (mp, .inl (cI, 60, .inl pl)), (mc, .inl (cI, 3721, .inl co)), (ml, .inl (cI, 3721, .inl le)), (mb, .inl (cI, 61, .inl be)), (md, .inl (cI, 61, .inl en)), (mr, .inl (cI, 60, .inl re))] := hD
  refine lv_aload_n hx hb dX7_base_5 rfl (lv_at hl 0 rfl) ?_
  refine kcv (wr := [(mc, .inl (cI, 3721, .inl co)), (ml, .inl (cI, 3721, .inl le)), (mb, .inl (cI, 61, .inl be)), (md, .inl (cI, 61, .inl en)), (mr, .inl (cI, 60, .inl re))]) (pre := [(o7, .inr (7, [.int (nI 0), .int (nI n), .ref mv, .ref mh, .int (nI len), .int (nI ll), .int pen, .int bf, .int bl, .int (nI cn), .ref ms, .int mid, .ref me, .ref mp, .ref mc, .ref ml, .ref mb, .ref md, .ref mr, .int spr])), (mv, .inl (cI, 60, .inl v)), (mh, .inl (cZ, 60, .inl hf)), (ms, .inl (cI, 60, .inl fs)), (me, .inl (cI, 12, .inl se)), (mp, .inl (cI, 60, .inl pl))]) (va_runV (As := []) (rest := []) ⟨hx, hb, hml, hown, hts⟩ (c_X7_laySeasons l D cI cZ cJ H.size o7 (nI 0) n mv mh len ll pen bf bl cn ms mid me mp mc ml mb md mr spr v hf fs se pl (by first | assumption | omega) (by first | assumption | omega) hln1 hln2) (cwV 0 hts gX7_base_X7_laySeasons rfl rfl rfl (by decide +kernel) ⟨Nat.le_of_ble_eq_true rfl, Nat.le_of_ble_eq_true rfl⟩) (kpreV hK hP hD (ci := 7) (q0 := 0) rfl rfl [0, 1, 2, 3, 4, 5] (by decide +kernel) rfl) rfl rfl hl.1 rfl (lv_room (Nat.le_of_ble_eq_true rfl)) dX7_base_6 ⟨Nat.zero_le _, Nat.zero_le _⟩) hP hD hS hA [0, 1, 2, 3, 4, 5] [6, 7, 8, 9, 10] rfl rfl (by decide +kernel) (by decide +kernel) (fun u9 H locs hw hP hD hS => ?_)
  obtain ⟨cn2_1, f92_2, se2_3, pl2_4⟩ := u9
  have hP : va_P D vwCl [(mc, .inl (cI, 3721, .inl co)), (ml, .inl (cI, 3721, .inl le)), (mb, .inl (cI, 61, .inl be)), (md, .inl (cI, 61, .inl en)), (mr, .inl (cI, 60, .inl re)), (o7, .inr (7, [.int (nI 0), .int (nI n), .ref mv, .ref mh, .int (nI len), .int (nI ll), .int pen, .int bf, .int bl, .int (nI cn2_1), .ref ms, .int (kBase v hf n), .ref me, .ref mp, .ref mc, .ref ml, .ref mb, .ref md, .ref mr, .int spr])), (mv, .inl (cI, 60, .inl v)), (mh, .inl (cZ, 60, .inl hf)), (ms, .inl (cI, 60, .inl f92_2)), (me, .inl (cI, 12, .inl se2_3)), (mp, .inl (cI, 60, .inl pl2_4))] H := hP
  have hD : va_D A [(mc, .inl (cI, 3721, .inl co)), (ml, .inl (cI, 3721, .inl le)), (mb, .inl (cI, 61, .inl be)), (md, .inl (cI, 61, .inl en)), (mr, .inl (cI, 60, .inl re)), (o7, .inr (7, [.int (nI 0), .int (nI n), .ref mv, .ref mh, .int (nI len), .int (nI ll), .int pen, .int bf, .int bl, .int (nI cn2_1), .ref ms, .int (kBase v hf n), .ref me, .ref mp, .ref mc, .ref ml, .ref mb, .ref md, .ref mr, .int spr])), (mv, .inl (cI, 60, .inl v)), (mh, .inl (cZ, 60, .inl hf)), (ms, .inl (cI, 60, .inl f92_2)), (me, .inl (cI, 12, .inl se2_3)), (mp, .inl (cI, 60, .inl pl2_4))] := hD
  have hse : (∀ j, j < len → se2_3 j = kSeas v hf n len j) ∧ ∀ k, k < n → pl2_4 k = kAdj v hf n len k := hw
  refine lv_aload_n hx hb dX7_base_9 rfl (lv_at hl 0 rfl) ?_
  refine va_get (D := D) (ci := 7) (v := .int (kBase v hf n)) (C := RX7) (T := TX7) (N := 20) hx hb hts hinX7 hown hK hP 5 rfl rfl 11 (by decide) (hts (.fieldLink RX7 78 "SeriesWatcherModel" "middle" "I") (by decide +kernel)) (fun _ h9 => h9) rfl dX7_base_10 ?_
  exact kri hx hb hr hlocks hP hK hD hS [(o7, .inr (7, [.int (nI 0), .int (nI n), .ref mv, .ref mh, .int (nI len), .int (nI ll), .int pen, .int bf, .int bl, .int (nI cn2_1), .ref ms, .int (kBase v hf n), .ref me, .ref mp, .ref mc, .ref ml, .ref mb, .ref md, .ref mr, .int spr])), (mv, .inl (cI, 60, .inl v)), (mh, .inl (cZ, 60, .inl hf)), (ms, .inl (cI, 60, .inl f92_2)), (me, .inl (cI, 12, .inl se2_3)), (mp, .inl (cI, 60, .inl pl2_4)), (mc, .inl (cI, 3721, .inl co)), (ml, .inl (cI, 3721, .inl le)), (mb, .inl (cI, 61, .inl be)), (md, .inl (cI, 61, .inl en)), (mr, .inl (cI, 60, .inl re))] (⟨rfl, kMd_mk (fun h => absurd h (by decide)) (fun h => absurd h (by decide)) (fun h => absurd h (by decide))⟩) [5, 6, 7, 8, 9, 10, 0, 1, 2, 3, 4] (by decide +kernel) rfl dX7_base_13

set_option maxHeartbeats 4000000 in
set_option maxRecDepth 100000 in
theorem c_X7_season (l : Launch) (D : va_G) (cI cZ cJ : ClassId) (sz : Nat)  (v hf : Nat → Int32) (n len ll : Nat) (pen bf bl th : Int32)  (o7 : Nat) (w6 : va_W) (k : Nat) (hok : kOk v hf n len ll pen bf bl) (hst : kMd cI cZ v hf n len ll pen bf bl th 0 o7 w6) (hk : k < len) : Met l yX7_season wsX7_season ({ frames := 8, cells := 0, slots := 0, locals := 330 }) (va_Pc [.ref o7, .int (nI k)] (kPre D (tyA cI cZ cJ) sz w6)) (va_Qi (fun (r : Int32) (w2 : va_W) => r = kSeas v hf n len k ∧ kMd cI cZ v hf n len ll pen bf bl (nI 0) 0 o7 w2) (kPost D (tyA cI cZ cJ) (va_A w6 sz) (fun (w2 : va_W) => w2)) (va_A w6 sz)) 0 0 (va_A w6 sz) := by
  refine kMd_open hst ?_
  intro mv mh cn ms me mp mc ml mb md mr mid spr fs se pl co le be en re e9w hv1 hv2 hv3
  clear hst
  subst e9w
  obtain ⟨hn, hbit, hln1, hln2, hll, hlm, hvb, hpb, hbb, hfb⟩ := id hok
  refine kOfW (cc := cX7_season) (maxL := 2) (ret := (some .int)) (fun A => va_Qi (fun (r : Int32) (w2 : va_W) => r = kSeas v hf n len k ∧ kMd cI cZ v hf n len ll pen bf bl (nI 0) 0 o7 w2) (kPost D (tyA cI cZ cJ) (A) (fun (w2 : va_W) => w2)) (A)) (by decide) rfl (Nat.le_of_ble_eq_true rfl) ?_
  intro p_ e_ s m_ below_ meth_ c_ A ls hx hb hr hml hts hown hlocks hin hA hP hK hD hsz hl
  have hS : va_S A s.heap s.heap [] := va_S.rf
  have hl : lv_has ls 2 [(0, .ref o7), (1, .int (nI k))] := hl
  have hinX7 : ∀ w ∈ wsX70, w ∈ wsX7_season := fun w h => List.mem_cons_of_mem _ (List.mem_append_right _ h)
  refine lv_aload_n hx hb dX7_season_0 rfl (lv_at hl 0 rfl) ?_
  refine lv_iconst (v := nI 0) hx hb dX7_season_1 (by decide) ?_
  refine va_put (D := D) (ci := 7) (v := .int (nI 0)) (ty := .int) (C := RX7) (T := TX7) (N := 20) hx hb hts hinX7 tyX7 tyX7_ok nmX7 hown hK hP hD hS 0 rfl rfl 0 (by decide) (hts (.fieldLink RX7 57 "SeriesWatcherModel" "thrown" "I") (by decide +kernel)) (fun _ h9 => h9) rfl (by decide +kernel) rfl rfl (Nat.le_of_ble_eq_true rfl) dX7_season_2 (fun H locs hP hD hS => ?_)
  have hP : va_P D vwCl [(o7, .inr (7, [.int (nI 0), .int (nI n), .ref mv, .ref mh, .int (nI len), .int (nI ll), .int pen, .int bf, .int bl, .int (nI cn), .ref ms, .int mid, .ref me, .ref mp, .ref mc, .ref ml, .ref mb, .ref md, .ref mr, .int spr])), (mv, .inl (cI, 60, .inl v)), (mh, .inl (cZ, 60, .inl hf)), (ms, .inl (cI, 60, .inl fs)), (me, .inl (cI, 12, .inl se)), (mp, .inl (cI, 60, .inl pl)), (mc, .inl (cI, 3721, .inl co)), (ml, .inl (cI, 3721, .inl le)), (mb, .inl (cI, 61, .inl be)), (md, .inl (cI, 61, .inl en)), (mr, .inl (cI, 60, .inl re))] H := hP
  have hD : va_D A [(o7, .inr (7, [.int (nI 0), .int (nI n), .ref mv, .ref mh, .int (nI len), .int (nI ll), .int pen, .int bf, .int bl, .int (nI cn), .ref ms, .int mid, .ref me, .ref mp, .ref mc, .ref ml, .ref mb, .ref md, .ref mr, .int spr])), (mv, .inl (cI, 60, .inl v)), (mh, .inl (cZ, 60, .inl hf)), (ms, .inl (cI, 60, .inl fs)), (me, .inl (cI, 12, .inl se)), (mp, .inl (cI, 60, .inl pl)), (mc, .inl (cI, 3721, .inl co)), (ml, .inl (cI, 3721, .inl le)), (mb, .inl (cI, 61, .inl be)), (md, .inl (cI, 61, .inl en)), (mr, .inl (cI, 60, .inl re))] := hD
  refine lv_iload_n hx hb dX7_season_5 rfl (lv_at hl 1 rfl) ?_
  refine lv_iconst (v := nI 0) hx hb dX7_season_6 (by decide) ?_
  refine lv_aload_n hx hb dX7_season_7 rfl (lv_at hl 0 rfl) ?_
  refine va_get (D := D) (ci := 7) (v := .int (nI len)) (C := RX7) (T := TX7) (N := 20) hx hb hts hinX7 hown hK hP 0 rfl rfl 4 (by decide) (hts (.fieldLink RX7 17 "SeriesWatcherModel" "length" "I") (by decide +kernel)) (fun _ h9 => h9) rfl dX7_season_8 ?_
  refine lv_iconst (v := nI 1) hx hb dX7_season_11 (by decide) ?_
  refine lv_isub hx hb dX7_season_12 ?_
  refine wt_i (y := nI len - nI 1) (rfl) ?_
  refine kci (wr := [(o7, .inr (7, [.int (nI 0), .int (nI n), .ref mv, .ref mh, .int (nI len), .int (nI ll), .int pen, .int bf, .int bl, .int (nI cn), .ref ms, .int mid, .ref me, .ref mp, .ref mc, .ref ml, .ref mb, .ref md, .ref mr, .int spr])), (mv, .inl (cI, 60, .inl v)), (mh, .inl (cZ, 60, .inl hf)), (ms, .inl (cI, 60, .inl fs)), (me, .inl (cI, 12, .inl se)), (mp, .inl (cI, 60, .inl pl)), (mc, .inl (cI, 3721, .inl co)), (ml, .inl (cI, 3721, .inl le)), (mb, .inl (cI, 61, .inl be)), (md, .inl (cI, 61, .inl en)), (mr, .inl (cI, 60, .inl re))]) (pre := []) (va_runS (As := [.int (nI k), .int (nI 0), .int (nI len - nI 1)]) (rest := []) ⟨hx, hb, hml, hown, hts⟩ (c_X7_in l D cI cZ cJ H.size (nI k) (nI 0) (nI len - nI 1) ) (va_cwS 3 hts gX7_season_X7_in rfl rfl rfl (by decide +kernel) ⟨Nat.le_of_ble_eq_true rfl, Nat.le_of_ble_eq_true rfl⟩) (kpreS hK hP hD [] (by decide +kernel) rfl) rfl rfl hl.1 rfl (lv_room (Nat.le_of_ble_eq_true rfl)) dX7_season_13 ⟨Nat.zero_le _, Nat.zero_le _⟩) hP hD hS hA [] [0, 1, 2, 3, 4, 5, 6, 7, 8, 9, 10] rfl rfl (by decide +kernel) (by decide +kernel) (fun r_1 _ H locs hw hP hD hS => ?_)
  have hP : va_P D vwCl [(o7, .inr (7, [.int (nI 0), .int (nI n), .ref mv, .ref mh, .int (nI len), .int (nI ll), .int pen, .int bf, .int bl, .int (nI cn), .ref ms, .int mid, .ref me, .ref mp, .ref mc, .ref ml, .ref mb, .ref md, .ref mr, .int spr])), (mv, .inl (cI, 60, .inl v)), (mh, .inl (cZ, 60, .inl hf)), (ms, .inl (cI, 60, .inl fs)), (me, .inl (cI, 12, .inl se)), (mp, .inl (cI, 60, .inl pl)), (mc, .inl (cI, 3721, .inl co)), (ml, .inl (cI, 3721, .inl le)), (mb, .inl (cI, 61, .inl be)), (md, .inl (cI, 61, .inl en)), (mr, .inl (cI, 60, .inl re))] H := hP
  have hD : va_D A [(o7, .inr (7, [.int (nI 0), .int (nI n), .ref mv, .ref mh, .int (nI len), .int (nI ll), .int pen, .int bf, .int bl, .int (nI cn), .ref ms, .int mid, .ref me, .ref mp, .ref mc, .ref ml, .ref mb, .ref md, .ref mr, .int spr])), (mv, .inl (cI, 60, .inl v)), (mh, .inl (cZ, 60, .inl hf)), (ms, .inl (cI, 60, .inl fs)), (me, .inl (cI, 12, .inl se)), (mp, .inl (cI, 60, .inl pl)), (mc, .inl (cI, 3721, .inl co)), (ml, .inl (cI, 3721, .inl le)), (mb, .inl (cI, 61, .inl be)), (md, .inl (cI, 61, .inl en)), (mr, .inl (cI, 60, .inl re))] := hD
  have hr9 : r_1 = kin (nI k) (nI 0) (nI len - nI 1) := hw
  refine wt_i hr9 ?_
  refine wt_i (y := nI 1) (kin_ok (by omega) hk) ?_
  refine lv_if_ne (tgt := 25) hx hb dX7_season_16 (by decide) (fun c16 => ?_) (fun c16 => ?_)
  · skip
    have c16 := kneq (a := 1) (b := 0) c16 (by omega) (by omega)
    refine lv_aload_n hx hb dX7_season_25 rfl (lv_at hl 0 rfl) ?_
    refine kcv (wr := [(mc, .inl (cI, 3721, .inl co)), (ml, .inl (cI, 3721, .inl le)), (mb, .inl (cI, 61, .inl be)), (md, .inl (cI, 61, .inl en)), (mr, .inl (cI, 60, .inl re))]) (pre := [(o7, .inr (7, [.int (nI 0), .int (nI n), .ref mv, .ref mh, .int (nI len), .int (nI ll), .int pen, .int bf, .int bl, .int (nI cn), .ref ms, .int mid, .ref me, .ref mp, .ref mc, .ref ml, .ref mb, .ref md, .ref mr, .int spr])), (mv, .inl (cI, 60, .inl v)), (mh, .inl (cZ, 60, .inl hf)), (ms, .inl (cI, 60, .inl fs)), (me, .inl (cI, 12, .inl se)), (mp, .inl (cI, 60, .inl pl))]) (va_runV (As := []) (rest := []) ⟨hx, hb, hml, hown, hts⟩ (c_X7_laySeasons l D cI cZ cJ H.size o7 (nI 0) n mv mh len ll pen bf bl cn ms mid me mp mc ml mb md mr spr v hf fs se pl (by first | assumption | omega) (by first | assumption | omega) hln1 hln2) (cwV 0 hts gX7_season_X7_laySeasons rfl rfl rfl (by decide +kernel) ⟨Nat.le_of_ble_eq_true rfl, Nat.le_of_ble_eq_true rfl⟩) (kpreV hK hP hD (ci := 7) (q0 := 0) rfl rfl [0, 1, 2, 3, 4, 5] (by decide +kernel) rfl) rfl rfl hl.1 rfl (lv_room (Nat.le_of_ble_eq_true rfl)) dX7_season_26 ⟨Nat.zero_le _, Nat.zero_le _⟩) hP hD hS hA [0, 1, 2, 3, 4, 5] [6, 7, 8, 9, 10] rfl rfl (by decide +kernel) (by decide +kernel) (fun u9 H locs hw hP hD hS => ?_)
    obtain ⟨cn2_3, f92_4, se2_5, pl2_6⟩ := u9
    have hP : va_P D vwCl [(mc, .inl (cI, 3721, .inl co)), (ml, .inl (cI, 3721, .inl le)), (mb, .inl (cI, 61, .inl be)), (md, .inl (cI, 61, .inl en)), (mr, .inl (cI, 60, .inl re)), (o7, .inr (7, [.int (nI 0), .int (nI n), .ref mv, .ref mh, .int (nI len), .int (nI ll), .int pen, .int bf, .int bl, .int (nI cn2_3), .ref ms, .int (kBase v hf n), .ref me, .ref mp, .ref mc, .ref ml, .ref mb, .ref md, .ref mr, .int spr])), (mv, .inl (cI, 60, .inl v)), (mh, .inl (cZ, 60, .inl hf)), (ms, .inl (cI, 60, .inl f92_4)), (me, .inl (cI, 12, .inl se2_5)), (mp, .inl (cI, 60, .inl pl2_6))] H := hP
    have hD : va_D A [(mc, .inl (cI, 3721, .inl co)), (ml, .inl (cI, 3721, .inl le)), (mb, .inl (cI, 61, .inl be)), (md, .inl (cI, 61, .inl en)), (mr, .inl (cI, 60, .inl re)), (o7, .inr (7, [.int (nI 0), .int (nI n), .ref mv, .ref mh, .int (nI len), .int (nI ll), .int pen, .int bf, .int bl, .int (nI cn2_3), .ref ms, .int (kBase v hf n), .ref me, .ref mp, .ref mc, .ref ml, .ref mb, .ref md, .ref mr, .int spr])), (mv, .inl (cI, 60, .inl v)), (mh, .inl (cZ, 60, .inl hf)), (ms, .inl (cI, 60, .inl f92_4)), (me, .inl (cI, 12, .inl se2_5)), (mp, .inl (cI, 60, .inl pl2_6))] := hD
    have hse : (∀ j, j < len → se2_5 j = kSeas v hf n len j) ∧ ∀ k, k < n → pl2_6 k = kAdj v hf n len k := hw
    refine lv_aload_n hx hb dX7_season_29 rfl (lv_at hl 0 rfl) ?_
    refine va_get (D := D) (ci := 7) (v := .ref me) (C := RX7) (T := TX7) (N := 20) hx hb hts hinX7 hown hK hP 5 rfl rfl 12 (by decide) (hts (.fieldLink RX7 36 "SeriesWatcherModel" "seasons" "[I") (by decide +kernel)) (fun _ h9 => h9) rfl dX7_season_30 ?_
    refine lv_iload_n hx hb dX7_season_33 rfl (lv_at hl 1 rfl) ?_
    refine va_iald (D := D) hx hb hK hP 9 0 rfl rfl (vp_in_nI (by omega) (by decide)) dX7_season_34 ?_
    refine wt_i (by rw [nI_clamp (n := k) (by omega)]) ?_
    refine wt_i (y := kSeas v hf n len k) (hse.1 k hk) ?_
    exact kri hx hb hr hlocks hP hK hD hS [(o7, .inr (7, [.int (nI 0), .int (nI n), .ref mv, .ref mh, .int (nI len), .int (nI ll), .int pen, .int bf, .int bl, .int (nI cn2_3), .ref ms, .int (kBase v hf n), .ref me, .ref mp, .ref mc, .ref ml, .ref mb, .ref md, .ref mr, .int spr])), (mv, .inl (cI, 60, .inl v)), (mh, .inl (cZ, 60, .inl hf)), (ms, .inl (cI, 60, .inl f92_4)), (me, .inl (cI, 12, .inl se2_5)), (mp, .inl (cI, 60, .inl pl2_6)), (mc, .inl (cI, 3721, .inl co)), (ml, .inl (cI, 3721, .inl le)), (mb, .inl (cI, 61, .inl be)), (md, .inl (cI, 61, .inl en)), (mr, .inl (cI, 60, .inl re))] (⟨rfl, kMd_mk (fun h => absurd h (by decide)) (fun h => absurd h (by decide)) (fun h => absurd h (by decide))⟩) [5, 6, 7, 8, 9, 10, 0, 1, 2, 3, 4] (by decide +kernel) rfl dX7_season_35
  · skip
    have c16 := keq (a := 1) (b := 0) c16 (by omega) (by omega)
    omega

set_option maxHeartbeats 4000000 in
set_option maxRecDepth 100000 in
theorem c_X7_adjusted (l : Launch) (D : va_G) (cI cZ cJ : ClassId) (sz : Nat)  (v hf : Nat → Int32) (n len ll : Nat) (pen bf bl th : Int32)  (o7 : Nat) (w6 : va_W) (k : Nat) (hok : kOk v hf n len ll pen bf bl) (hst : kMd cI cZ v hf n len ll pen bf bl th 0 o7 w6) (hk : k < n) : Met l yX7_adjusted wsX7_adjusted ({ frames := 8, cells := 0, slots := 0, locals := 330 }) (va_Pc [.ref o7, .int (nI k)] (kPre D (tyA cI cZ cJ) sz w6)) (va_Qi (fun (r : Int32) (w2 : va_W) => r = kAdj v hf n len k ∧ kMd cI cZ v hf n len ll pen bf bl (nI 0) 0 o7 w2) (kPost D (tyA cI cZ cJ) (va_A w6 sz) (fun (w2 : va_W) => w2)) (va_A w6 sz)) 0 0 (va_A w6 sz) := by
  refine kMd_open hst ?_
  intro mv mh cn ms me mp mc ml mb md mr mid spr fs se pl co le be en re e9w hv1 hv2 hv3
  clear hst
  subst e9w
  obtain ⟨hn, hbit, hln1, hln2, hll, hlm, hvb, hpb, hbb, hfb⟩ := id hok
  refine kOfW (cc := cX7_adjusted) (maxL := 2) (ret := (some .int)) (fun A => va_Qi (fun (r : Int32) (w2 : va_W) => r = kAdj v hf n len k ∧ kMd cI cZ v hf n len ll pen bf bl (nI 0) 0 o7 w2) (kPost D (tyA cI cZ cJ) (A) (fun (w2 : va_W) => w2)) (A)) (by decide) rfl (Nat.le_of_ble_eq_true rfl) ?_
  intro p_ e_ s m_ below_ meth_ c_ A ls hx hb hr hml hts hown hlocks hin hA hP hK hD hsz hl
  have hS : va_S A s.heap s.heap [] := va_S.rf
  have hl : lv_has ls 2 [(0, .ref o7), (1, .int (nI k))] := hl
  have hinX7 : ∀ w ∈ wsX70, w ∈ wsX7_adjusted := fun w h => List.mem_cons_of_mem _ (List.mem_append_right _ h)
  refine lv_aload_n hx hb dX7_adjusted_0 rfl (lv_at hl 0 rfl) ?_
  refine lv_iconst (v := nI 0) hx hb dX7_adjusted_1 (by decide) ?_
  refine va_put (D := D) (ci := 7) (v := .int (nI 0)) (ty := .int) (C := RX7) (T := TX7) (N := 20) hx hb hts hinX7 tyX7 tyX7_ok nmX7 hown hK hP hD hS 0 rfl rfl 0 (by decide) (hts (.fieldLink RX7 57 "SeriesWatcherModel" "thrown" "I") (by decide +kernel)) (fun _ h9 => h9) rfl (by decide +kernel) rfl rfl (Nat.le_of_ble_eq_true rfl) dX7_adjusted_2 (fun H locs hP hD hS => ?_)
  have hP : va_P D vwCl [(o7, .inr (7, [.int (nI 0), .int (nI n), .ref mv, .ref mh, .int (nI len), .int (nI ll), .int pen, .int bf, .int bl, .int (nI cn), .ref ms, .int mid, .ref me, .ref mp, .ref mc, .ref ml, .ref mb, .ref md, .ref mr, .int spr])), (mv, .inl (cI, 60, .inl v)), (mh, .inl (cZ, 60, .inl hf)), (ms, .inl (cI, 60, .inl fs)), (me, .inl (cI, 12, .inl se)), (mp, .inl (cI, 60, .inl pl)), (mc, .inl (cI, 3721, .inl co)), (ml, .inl (cI, 3721, .inl le)), (mb, .inl (cI, 61, .inl be)), (md, .inl (cI, 61, .inl en)), (mr, .inl (cI, 60, .inl re))] H := hP
  have hD : va_D A [(o7, .inr (7, [.int (nI 0), .int (nI n), .ref mv, .ref mh, .int (nI len), .int (nI ll), .int pen, .int bf, .int bl, .int (nI cn), .ref ms, .int mid, .ref me, .ref mp, .ref mc, .ref ml, .ref mb, .ref md, .ref mr, .int spr])), (mv, .inl (cI, 60, .inl v)), (mh, .inl (cZ, 60, .inl hf)), (ms, .inl (cI, 60, .inl fs)), (me, .inl (cI, 12, .inl se)), (mp, .inl (cI, 60, .inl pl)), (mc, .inl (cI, 3721, .inl co)), (ml, .inl (cI, 3721, .inl le)), (mb, .inl (cI, 61, .inl be)), (md, .inl (cI, 61, .inl en)), (mr, .inl (cI, 60, .inl re))] := hD
  refine lv_aload_n hx hb dX7_adjusted_5 rfl (lv_at hl 0 rfl) ?_
  refine lv_iload_n hx hb dX7_adjusted_6 rfl (lv_at hl 1 rfl) ?_
  refine kci (wr := [(mv, .inl (cI, 60, .inl v)), (mh, .inl (cZ, 60, .inl hf)), (ms, .inl (cI, 60, .inl fs)), (me, .inl (cI, 12, .inl se)), (mp, .inl (cI, 60, .inl pl)), (mc, .inl (cI, 3721, .inl co)), (ml, .inl (cI, 3721, .inl le)), (mb, .inl (cI, 61, .inl be)), (md, .inl (cI, 61, .inl en)), (mr, .inl (cI, 60, .inl re))]) (pre := [(o7, .inr (7, [.int (nI 0), .int (nI n), .ref mv, .ref mh, .int (nI len), .int (nI ll), .int pen, .int bf, .int bl, .int (nI cn), .ref ms, .int mid, .ref me, .ref mp, .ref mc, .ref ml, .ref mb, .ref md, .ref mr, .int spr]))]) (va_runV (As := [.int (nI k)]) (rest := []) ⟨hx, hb, hml, hown, hts⟩ (c_X7_isValue l D cI cZ cJ H.size o7 (nI 0) n mv mh len ll pen bf bl cn ms mid me mp mc ml mb md mr spr (nI k) ) (cwV 1 hts gX7_adjusted_X7_isValue rfl rfl rfl (by decide +kernel) ⟨Nat.le_of_ble_eq_true rfl, Nat.le_of_ble_eq_true rfl⟩) (kpreV hK hP hD (ci := 7) (q0 := 0) rfl rfl [0] (by decide +kernel) rfl) rfl rfl hl.1 rfl (lv_room (Nat.le_of_ble_eq_true rfl)) dX7_adjusted_7 ⟨Nat.zero_le _, Nat.zero_le _⟩) hP hD hS hA [0] [1, 2, 3, 4, 5, 6, 7, 8, 9, 10] rfl rfl (by decide +kernel) (by decide +kernel) (fun r_1 _ H locs hw hP hD hS => ?_)
  have hP : va_P D vwCl [(mv, .inl (cI, 60, .inl v)), (mh, .inl (cZ, 60, .inl hf)), (ms, .inl (cI, 60, .inl fs)), (me, .inl (cI, 12, .inl se)), (mp, .inl (cI, 60, .inl pl)), (mc, .inl (cI, 3721, .inl co)), (ml, .inl (cI, 3721, .inl le)), (mb, .inl (cI, 61, .inl be)), (md, .inl (cI, 61, .inl en)), (mr, .inl (cI, 60, .inl re)), (o7, .inr (7, [.int (nI 0), .int (nI n), .ref mv, .ref mh, .int (nI len), .int (nI ll), .int pen, .int bf, .int bl, .int (nI cn), .ref ms, .int mid, .ref me, .ref mp, .ref mc, .ref ml, .ref mb, .ref md, .ref mr, .int spr]))] H := hP
  have hD : va_D A [(mv, .inl (cI, 60, .inl v)), (mh, .inl (cZ, 60, .inl hf)), (ms, .inl (cI, 60, .inl fs)), (me, .inl (cI, 12, .inl se)), (mp, .inl (cI, 60, .inl pl)), (mc, .inl (cI, 3721, .inl co)), (ml, .inl (cI, 3721, .inl le)), (mb, .inl (cI, 61, .inl be)), (md, .inl (cI, 61, .inl en)), (mr, .inl (cI, 60, .inl re)), (o7, .inr (7, [.int (nI 0), .int (nI n), .ref mv, .ref mh, .int (nI len), .int (nI ll), .int pen, .int bf, .int bl, .int (nI cn), .ref ms, .int mid, .ref me, .ref mp, .ref mc, .ref ml, .ref mb, .ref md, .ref mr, .int spr]))] := hD
  have hr9 : r_1 = kin (nI k) (nI 0) (nI n - nI 1) := hw
  refine wt_i hr9 ?_
  refine wt_i (y := nI 1) (kin_ok hn hk) ?_
  refine lv_if_ne (tgt := 19) hx hb dX7_adjusted_10 (by decide) (fun c10 => ?_) (fun c10 => ?_)
  · skip
    have c10 := kneq (a := 1) (b := 0) c10 (by omega) (by omega)
    refine lv_aload_n hx hb dX7_adjusted_19 rfl (lv_at hl 0 rfl) ?_
    refine kcv (wr := [(mc, .inl (cI, 3721, .inl co)), (ml, .inl (cI, 3721, .inl le)), (mb, .inl (cI, 61, .inl be)), (md, .inl (cI, 61, .inl en)), (mr, .inl (cI, 60, .inl re))]) (pre := [(o7, .inr (7, [.int (nI 0), .int (nI n), .ref mv, .ref mh, .int (nI len), .int (nI ll), .int pen, .int bf, .int bl, .int (nI cn), .ref ms, .int mid, .ref me, .ref mp, .ref mc, .ref ml, .ref mb, .ref md, .ref mr, .int spr])), (mv, .inl (cI, 60, .inl v)), (mh, .inl (cZ, 60, .inl hf)), (ms, .inl (cI, 60, .inl fs)), (me, .inl (cI, 12, .inl se)), (mp, .inl (cI, 60, .inl pl))]) (va_runV (As := []) (rest := []) ⟨hx, hb, hml, hown, hts⟩ (c_X7_laySeasons l D cI cZ cJ H.size o7 (nI 0) n mv mh len ll pen bf bl cn ms mid me mp mc ml mb md mr spr v hf fs se pl (by first | assumption | omega) (by first | assumption | omega) hln1 hln2) (cwV 0 hts gX7_adjusted_X7_laySeasons rfl rfl rfl (by decide +kernel) ⟨Nat.le_of_ble_eq_true rfl, Nat.le_of_ble_eq_true rfl⟩) (kpreV hK hP hD (ci := 7) (q0 := 10) rfl rfl [10, 0, 1, 2, 3, 4] (by decide +kernel) rfl) rfl rfl hl.1 rfl (lv_room (Nat.le_of_ble_eq_true rfl)) dX7_adjusted_20 ⟨Nat.zero_le _, Nat.zero_le _⟩) hP hD hS hA [10, 0, 1, 2, 3, 4] [5, 6, 7, 8, 9] rfl rfl (by decide +kernel) (by decide +kernel) (fun u9 H locs hw hP hD hS => ?_)
    obtain ⟨cn2_3, f92_4, se2_5, pl2_6⟩ := u9
    have hP : va_P D vwCl [(mc, .inl (cI, 3721, .inl co)), (ml, .inl (cI, 3721, .inl le)), (mb, .inl (cI, 61, .inl be)), (md, .inl (cI, 61, .inl en)), (mr, .inl (cI, 60, .inl re)), (o7, .inr (7, [.int (nI 0), .int (nI n), .ref mv, .ref mh, .int (nI len), .int (nI ll), .int pen, .int bf, .int bl, .int (nI cn2_3), .ref ms, .int (kBase v hf n), .ref me, .ref mp, .ref mc, .ref ml, .ref mb, .ref md, .ref mr, .int spr])), (mv, .inl (cI, 60, .inl v)), (mh, .inl (cZ, 60, .inl hf)), (ms, .inl (cI, 60, .inl f92_4)), (me, .inl (cI, 12, .inl se2_5)), (mp, .inl (cI, 60, .inl pl2_6))] H := hP
    have hD : va_D A [(mc, .inl (cI, 3721, .inl co)), (ml, .inl (cI, 3721, .inl le)), (mb, .inl (cI, 61, .inl be)), (md, .inl (cI, 61, .inl en)), (mr, .inl (cI, 60, .inl re)), (o7, .inr (7, [.int (nI 0), .int (nI n), .ref mv, .ref mh, .int (nI len), .int (nI ll), .int pen, .int bf, .int bl, .int (nI cn2_3), .ref ms, .int (kBase v hf n), .ref me, .ref mp, .ref mc, .ref ml, .ref mb, .ref md, .ref mr, .int spr])), (mv, .inl (cI, 60, .inl v)), (mh, .inl (cZ, 60, .inl hf)), (ms, .inl (cI, 60, .inl f92_4)), (me, .inl (cI, 12, .inl se2_5)), (mp, .inl (cI, 60, .inl pl2_6))] := hD
    have hse : (∀ j, j < len → se2_5 j = kSeas v hf n len j) ∧ ∀ k, k < n → pl2_6 k = kAdj v hf n len k := hw
    refine lv_aload_n hx hb dX7_adjusted_23 rfl (lv_at hl 0 rfl) ?_
    refine va_get (D := D) (ci := 7) (v := .ref mp) (C := RX7) (T := TX7) (N := 20) hx hb hts hinX7 hown hK hP 5 rfl rfl 13 (by decide) (hts (.fieldLink RX7 39 "SeriesWatcherModel" "plain" "[I") (by decide +kernel)) (fun _ h9 => h9) rfl dX7_adjusted_24 ?_
    refine lv_iload_n hx hb dX7_adjusted_27 rfl (lv_at hl 1 rfl) ?_
    refine va_iald (D := D) hx hb hK hP 10 0 rfl rfl (vp_in_nI (by omega) (by decide)) dX7_adjusted_28 ?_
    refine wt_i (by rw [nI_clamp (n := k) (by omega)]) ?_
    refine wt_i (y := kAdj v hf n len k) (hse.2 k hk) ?_
    exact kri hx hb hr hlocks hP hK hD hS [(o7, .inr (7, [.int (nI 0), .int (nI n), .ref mv, .ref mh, .int (nI len), .int (nI ll), .int pen, .int bf, .int bl, .int (nI cn2_3), .ref ms, .int (kBase v hf n), .ref me, .ref mp, .ref mc, .ref ml, .ref mb, .ref md, .ref mr, .int spr])), (mv, .inl (cI, 60, .inl v)), (mh, .inl (cZ, 60, .inl hf)), (ms, .inl (cI, 60, .inl f92_4)), (me, .inl (cI, 12, .inl se2_5)), (mp, .inl (cI, 60, .inl pl2_6)), (mc, .inl (cI, 3721, .inl co)), (ml, .inl (cI, 3721, .inl le)), (mb, .inl (cI, 61, .inl be)), (md, .inl (cI, 61, .inl en)), (mr, .inl (cI, 60, .inl re))] (⟨rfl, kMd_mk (fun h => absurd h (by decide)) (fun h => absurd h (by decide)) (fun h => absurd h (by decide))⟩) [5, 6, 7, 8, 9, 10, 0, 1, 2, 3, 4] (by decide +kernel) rfl dX7_adjusted_29
  · skip
    have c10 := keq (a := 1) (b := 0) c10 (by omega) (by omega)
    omega

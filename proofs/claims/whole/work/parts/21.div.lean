set_option maxHeartbeats 4000000 in
set_option maxRecDepth 100000 in
theorem c_X7_layDivision (l : Launch) (D : va_G) (cI cZ cJ : ClassId) (sz : Nat) (o7 : Nat) (th : Int32) (n mv mh len ll : Nat) (pen bf bl : Int32) (cn ms : Nat) (mid : Int32) (me mp mc ml mb md mr : Nat) (spr : Int32) (v hf fs se pl co le be en : Nat → Int32) (hn : n ≤ 60) (hbit : ∀ k, kbit (hf k)) (hl1 : 1 ≤ len) (hl2 : len ≤ 12) (hll : 1 ≤ ll) (hlm : ll ≤ 10) : Met l yX7_layDivision wsX7_layDivision ({ frames := 3, cells := 0, slots := 0, locals := 110 }) (va_Pc [.ref o7] (kPre D (tyA cI cZ cJ) sz [(o7, .inr (7, [.int th, .int (nI n), .ref mv, .ref mh, .int (nI len), .int (nI ll), .int pen, .int bf, .int bl, .int (nI cn), .ref ms, .int mid, .ref me, .ref mp, .ref mc, .ref ml, .ref mb, .ref md, .ref mr, .int spr])), (mv, .inl (cI, 60, .inl v)), (mh, .inl (cZ, 60, .inl hf)), (ms, .inl (cI, 60, .inl fs)), (me, .inl (cI, 12, .inl se)), (mp, .inl (cI, 60, .inl pl)), (mc, .inl (cI, 3721, .inl co)), (ml, .inl (cI, 3721, .inl le)), (mb, .inl (cI, 61, .inl be)), (md, .inl (cI, 61, .inl en))])) (va_Qv (fun (u : Nat × (Nat → Int32) × (Nat → Int32) × (Nat → Int32) × (Nat → Int32) × (Nat → Int32) × (Nat → Int32) × (Nat → Int32)) => match u with | (cn2, f92, se2, pl2, co9, le9, be2, en2) => (∀ j, j < len → se2 j = kSeas v hf n len j) ∧ (∀ k, k < n → pl2 k = kAdj v hf n len k) ∧ (∀ a b, a < n → a < b → b ≤ n → le9 (61 * a + b) = kLev pl2 hf a b ∧ co9 (61 * a + b) = kSumM (kseg pl2 hf a b)) ∧ kDM co9 ll pen n be2 en2 0) (kPost D (tyA cI cZ cJ) (va_A [(o7, .inr (7, [.int th, .int (nI n), .ref mv, .ref mh, .int (nI len), .int (nI ll), .int pen, .int bf, .int bl, .int (nI cn), .ref ms, .int mid, .ref me, .ref mp, .ref mc, .ref ml, .ref mb, .ref md, .ref mr, .int spr])), (mv, .inl (cI, 60, .inl v)), (mh, .inl (cZ, 60, .inl hf)), (ms, .inl (cI, 60, .inl fs)), (me, .inl (cI, 12, .inl se)), (mp, .inl (cI, 60, .inl pl)), (mc, .inl (cI, 3721, .inl co)), (ml, .inl (cI, 3721, .inl le)), (mb, .inl (cI, 61, .inl be)), (md, .inl (cI, 61, .inl en))] sz) (fun (u : Nat × (Nat → Int32) × (Nat → Int32) × (Nat → Int32) × (Nat → Int32) × (Nat → Int32) × (Nat → Int32) × (Nat → Int32)) => match u with | (cn2, f92, se2, pl2, co9, le9, be2, en2) => [(o7, .inr (7, [.int th, .int (nI n), .ref mv, .ref mh, .int (nI len), .int (nI ll), .int pen, .int bf, .int bl, .int (nI cn2), .ref ms, .int (kBase v hf n), .ref me, .ref mp, .ref mc, .ref ml, .ref mb, .ref md, .ref mr, .int spr])), (mv, .inl (cI, 60, .inl v)), (mh, .inl (cZ, 60, .inl hf)), (ms, .inl (cI, 60, .inl f92)), (me, .inl (cI, 12, .inl se2)), (mp, .inl (cI, 60, .inl pl2)), (mc, .inl (cI, 3721, .inl co9)), (ml, .inl (cI, 3721, .inl le9)), (mb, .inl (cI, 61, .inl be2)), (md, .inl (cI, 61, .inl en2))])) (va_A [(o7, .inr (7, [.int th, .int (nI n), .ref mv, .ref mh, .int (nI len), .int (nI ll), .int pen, .int bf, .int bl, .int (nI cn), .ref ms, .int mid, .ref me, .ref mp, .ref mc, .ref ml, .ref mb, .ref md, .ref mr, .int spr])), (mv, .inl (cI, 60, .inl v)), (mh, .inl (cZ, 60, .inl hf)), (ms, .inl (cI, 60, .inl fs)), (me, .inl (cI, 12, .inl se)), (mp, .inl (cI, 60, .inl pl)), (mc, .inl (cI, 3721, .inl co)), (ml, .inl (cI, 3721, .inl le)), (mb, .inl (cI, 61, .inl be)), (md, .inl (cI, 61, .inl en))] sz)) 0 0 (va_A [(o7, .inr (7, [.int th, .int (nI n), .ref mv, .ref mh, .int (nI len), .int (nI ll), .int pen, .int bf, .int bl, .int (nI cn), .ref ms, .int mid, .ref me, .ref mp, .ref mc, .ref ml, .ref mb, .ref md, .ref mr, .int spr])), (mv, .inl (cI, 60, .inl v)), (mh, .inl (cZ, 60, .inl hf)), (ms, .inl (cI, 60, .inl fs)), (me, .inl (cI, 12, .inl se)), (mp, .inl (cI, 60, .inl pl)), (mc, .inl (cI, 3721, .inl co)), (ml, .inl (cI, 3721, .inl le)), (mb, .inl (cI, 61, .inl be)), (md, .inl (cI, 61, .inl en))] sz) := by
  refine kOfW (cc := cX7_layDivision) (maxL := 6) (ret := none) (fun A => va_Qv (fun (u : Nat × (Nat → Int32) × (Nat → Int32) × (Nat → Int32) × (Nat → Int32) × (Nat → Int32) × (Nat → Int32) × (Nat → Int32)) => match u with | (cn2, f92, se2, pl2, co9, le9, be2, en2) => (∀ j, j < len → se2 j = kSeas v hf n len j) ∧ (∀ k, k < n → pl2 k = kAdj v hf n len k) ∧ (∀ a b, a < n → a < b → b ≤ n → le9 (61 * a + b) = kLev pl2 hf a b ∧ co9 (61 * a + b) = kSumM (kseg pl2 hf a b)) ∧ kDM co9 ll pen n be2 en2 0) (kPost D (tyA cI cZ cJ) (A) (fun (u : Nat × (Nat → Int32) × (Nat → Int32) × (Nat → Int32) × (Nat → Int32) × (Nat → Int32) × (Nat → Int32) × (Nat → Int32)) => match u with | (cn2, f92, se2, pl2, co9, le9, be2, en2) => [(o7, .inr (7, [.int th, .int (nI n), .ref mv, .ref mh, .int (nI len), .int (nI ll), .int pen, .int bf, .int bl, .int (nI cn2), .ref ms, .int (kBase v hf n), .ref me, .ref mp, .ref mc, .ref ml, .ref mb, .ref md, .ref mr, .int spr])), (mv, .inl (cI, 60, .inl v)), (mh, .inl (cZ, 60, .inl hf)), (ms, .inl (cI, 60, .inl f92)), (me, .inl (cI, 12, .inl se2)), (mp, .inl (cI, 60, .inl pl2)), (mc, .inl (cI, 3721, .inl co9)), (ml, .inl (cI, 3721, .inl le9)), (mb, .inl (cI, 61, .inl be2)), (md, .inl (cI, 61, .inl en2))])) (A)) (by decide) rfl (Nat.le_of_ble_eq_true rfl) ?_
  intro p_ e_ s m_ below_ meth_ c_ A ls hx hb hr hml hts hown hlocks hin hA hP hK hD hsz hl
  have hS : va_S A s.heap s.heap [] := va_S.rf
  have hl : lv_has ls 6 [(0, .ref o7)] := hl
  have hinX7 : ∀ w ∈ wsX70, w ∈ wsX7_layDivision := fun w h => List.mem_cons_of_mem _ (List.mem_append_right _ h)
  refine lv_aload_n hx hb dX7_layDivision_0 rfl (lv_at hl 0 rfl) ?_
  refine kcv (wr := [(mc, .inl (cI, 3721, .inl co)), (ml, .inl (cI, 3721, .inl le)), (mb, .inl (cI, 61, .inl be)), (md, .inl (cI, 61, .inl en))]) (pre := [(o7, .inr (7, [.int th, .int (nI n), .ref mv, .ref mh, .int (nI len), .int (nI ll), .int pen, .int bf, .int bl, .int (nI cn), .ref ms, .int mid, .ref me, .ref mp, .ref mc, .ref ml, .ref mb, .ref md, .ref mr, .int spr])), (mv, .inl (cI, 60, .inl v)), (mh, .inl (cZ, 60, .inl hf)), (ms, .inl (cI, 60, .inl fs)), (me, .inl (cI, 12, .inl se)), (mp, .inl (cI, 60, .inl pl))]) (va_runV (As := []) (rest := []) ⟨hx, hb, hml, hown, hts⟩ (c_X7_laySeasons l D cI cZ cJ s.heap.size o7 th n mv mh len ll pen bf bl cn ms mid me mp mc ml mb md mr spr v hf fs se pl (by first | assumption | omega) (by first | assumption | omega) (by first | assumption | omega) (by first | assumption | omega)) (cwV 0 hts gX7_layDivision_X7_laySeasons rfl rfl rfl (by decide +kernel) ⟨Nat.le_of_ble_eq_true rfl, Nat.le_of_ble_eq_true rfl⟩) (kpreV hK hP hD (ci := 7) (q0 := 0) rfl rfl [0, 1, 2, 3, 4, 5] (by decide +kernel) rfl) rfl rfl hl.1 rfl (lv_room (Nat.le_of_ble_eq_true rfl)) dX7_layDivision_1 ⟨Nat.zero_le _, Nat.zero_le _⟩) hP hD hS hA [0, 1, 2, 3, 4, 5] [6, 7, 8, 9] rfl rfl (by decide +kernel) (by decide +kernel) (fun u9 H locs hw hP hD hS => ?_)
  obtain ⟨cn2_1, f92_2, se2_3, pl2_4⟩ := u9
  have hP : va_P D vwCl [(mc, .inl (cI, 3721, .inl co)), (ml, .inl (cI, 3721, .inl le)), (mb, .inl (cI, 61, .inl be)), (md, .inl (cI, 61, .inl en)), (o7, .inr (7, [.int th, .int (nI n), .ref mv, .ref mh, .int (nI len), .int (nI ll), .int pen, .int bf, .int bl, .int (nI cn2_1), .ref ms, .int (kBase v hf n), .ref me, .ref mp, .ref mc, .ref ml, .ref mb, .ref md, .ref mr, .int spr])), (mv, .inl (cI, 60, .inl v)), (mh, .inl (cZ, 60, .inl hf)), (ms, .inl (cI, 60, .inl f92_2)), (me, .inl (cI, 12, .inl se2_3)), (mp, .inl (cI, 60, .inl pl2_4))] H := hP
  have hD : va_D A [(mc, .inl (cI, 3721, .inl co)), (ml, .inl (cI, 3721, .inl le)), (mb, .inl (cI, 61, .inl be)), (md, .inl (cI, 61, .inl en)), (o7, .inr (7, [.int th, .int (nI n), .ref mv, .ref mh, .int (nI len), .int (nI ll), .int pen, .int bf, .int bl, .int (nI cn2_1), .ref ms, .int (kBase v hf n), .ref me, .ref mp, .ref mc, .ref ml, .ref mb, .ref md, .ref mr, .int spr])), (mv, .inl (cI, 60, .inl v)), (mh, .inl (cZ, 60, .inl hf)), (ms, .inl (cI, 60, .inl f92_2)), (me, .inl (cI, 12, .inl se2_3)), (mp, .inl (cI, 60, .inl pl2_4))] := hD
  have hse : (∀ j, j < len → se2_3 j = kSeas v hf n len j) ∧ ∀ k, k < n → pl2_4 k = kAdj v hf n len k := hw
  refine lv_aload_n hx hb dX7_layDivision_4 rfl (lv_at hl 0 rfl) ?_
  refine kcv (wr := [(mb, .inl (cI, 61, .inl be)), (md, .inl (cI, 61, .inl en)), (mv, .inl (cI, 60, .inl v)), (me, .inl (cI, 12, .inl se2_3))]) (pre := [(o7, .inr (7, [.int th, .int (nI n), .ref mv, .ref mh, .int (nI len), .int (nI ll), .int pen, .int bf, .int bl, .int (nI cn2_1), .ref ms, .int (kBase v hf n), .ref me, .ref mp, .ref mc, .ref ml, .ref mb, .ref md, .ref mr, .int spr])), (mh, .inl (cZ, 60, .inl hf)), (ms, .inl (cI, 60, .inl f92_2)), (mp, .inl (cI, 60, .inl pl2_4)), (mc, .inl (cI, 3721, .inl co)), (ml, .inl (cI, 3721, .inl le))]) (va_runV (As := []) (rest := []) ⟨hx, hb, hml, hown, hts⟩ (c_X7_laySegments l D cI cZ cJ H.size o7 th n mv mh len ll pen bf bl cn2_1 ms (kBase v hf n) me mp mc ml mb md mr spr hf f92_2 pl2_4 co le (by first | assumption | omega) (by first | assumption | omega)) (cwV 0 hts gX7_layDivision_X7_laySegments rfl rfl rfl (by decide +kernel) ⟨Nat.le_of_ble_eq_true rfl, Nat.le_of_ble_eq_true rfl⟩) (kpreV hK hP hD (ci := 7) (q0 := 4) rfl rfl [4, 6, 7, 9, 0, 1] (by decide +kernel) rfl) rfl rfl hl.1 rfl (lv_room (Nat.le_of_ble_eq_true rfl)) dX7_layDivision_5 ⟨Nat.zero_le _, Nat.zero_le _⟩) hP hD hS hA [4, 6, 7, 9, 0, 1] [2, 3, 5, 8] rfl rfl (by decide +kernel) (by decide +kernel) (fun u9 H locs hw hP hD hS => ?_)
  obtain ⟨cn2_6, f92_7, co9, le9⟩ := u9
  have hP : va_P D vwCl [(mb, .inl (cI, 61, .inl be)), (md, .inl (cI, 61, .inl en)), (mv, .inl (cI, 60, .inl v)), (me, .inl (cI, 12, .inl se2_3)), (o7, .inr (7, [.int th, .int (nI n), .ref mv, .ref mh, .int (nI len), .int (nI ll), .int pen, .int bf, .int bl, .int (nI cn2_6), .ref ms, .int (kBase v hf n), .ref me, .ref mp, .ref mc, .ref ml, .ref mb, .ref md, .ref mr, .int spr])), (mh, .inl (cZ, 60, .inl hf)), (ms, .inl (cI, 60, .inl f92_7)), (mp, .inl (cI, 60, .inl pl2_4)), (mc, .inl (cI, 3721, .inl co9)), (ml, .inl (cI, 3721, .inl le9))] H := hP
  have hD : va_D A [(mb, .inl (cI, 61, .inl be)), (md, .inl (cI, 61, .inl en)), (mv, .inl (cI, 60, .inl v)), (me, .inl (cI, 12, .inl se2_3)), (o7, .inr (7, [.int th, .int (nI n), .ref mv, .ref mh, .int (nI len), .int (nI ll), .int pen, .int bf, .int bl, .int (nI cn2_6), .ref ms, .int (kBase v hf n), .ref me, .ref mp, .ref mc, .ref ml, .ref mb, .ref md, .ref mr, .int spr])), (mh, .inl (cZ, 60, .inl hf)), (ms, .inl (cI, 60, .inl f92_7)), (mp, .inl (cI, 60, .inl pl2_4)), (mc, .inl (cI, 3721, .inl co9)), (ml, .inl (cI, 3721, .inl le9))] := hD
  have htb : (∀ a b, a < n → a < b → b ≤ n → le9 (61 * a + b) = kLev pl2_4 hf a b ∧ co9 (61 * a + b) = kSumM (kseg pl2_4 hf a b)) := hw
  refine lv_aload_n hx hb dX7_layDivision_8 rfl (lv_at hl 0 rfl) ?_
  refine va_get (D := D) (ci := 7) (v := .ref mb) (C := RX7) (T := TX7) (N := 20) hx hb hts hinX7 hown hK hP 4 rfl rfl 16 (by decide) (hts (.fieldLink RX7 48 "SeriesWatcherModel" "best" "[I") (by decide +kernel)) (fun _ h9 => h9) rfl dX7_layDivision_9 ?_
  refine lv_aload_n hx hb dX7_layDivision_12 rfl (lv_at hl 0 rfl) ?_
  refine va_get (D := D) (ci := 7) (v := .int (nI n)) (C := RX7) (T := TX7) (N := 20) hx hb hts hinX7 hown hK hP 4 rfl rfl 1 (by decide) (hts (.fieldLink RX7 60 "SeriesWatcherModel" "many" "I") (by decide +kernel)) (fun _ h9 => h9) rfl dX7_layDivision_13 ?_
  refine lv_iconst (v := nI 0) hx hb dX7_layDivision_16 (by decide) ?_
  refine va_iast (D := D) hx hb hK hP hD hS 0 0 rfl rfl (vp_in_nI (by omega) (by decide)) dX7_layDivision_17 (fun H locs hP hD hS => ?_)
  rw [nI_clamp (n := n) (by omega)] at hP hD
  have hP : va_P D vwCl [(mb, .inl (cI, 61, .inl (upd be n (nI 0)))), (md, .inl (cI, 61, .inl en)), (mv, .inl (cI, 60, .inl v)), (me, .inl (cI, 12, .inl se2_3)), (o7, .inr (7, [.int th, .int (nI n), .ref mv, .ref mh, .int (nI len), .int (nI ll), .int pen, .int bf, .int bl, .int (nI cn2_6), .ref ms, .int (kBase v hf n), .ref me, .ref mp, .ref mc, .ref ml, .ref mb, .ref md, .ref mr, .int spr])), (mh, .inl (cZ, 60, .inl hf)), (ms, .inl (cI, 60, .inl f92_7)), (mp, .inl (cI, 60, .inl pl2_4)), (mc, .inl (cI, 3721, .inl co9)), (ml, .inl (cI, 3721, .inl le9))] H := hP
  have hD : va_D A [(mb, .inl (cI, 61, .inl (upd be n (nI 0)))), (md, .inl (cI, 61, .inl en)), (mv, .inl (cI, 60, .inl v)), (me, .inl (cI, 12, .inl se2_3)), (o7, .inr (7, [.int th, .int (nI n), .ref mv, .ref mh, .int (nI len), .int (nI ll), .int pen, .int bf, .int bl, .int (nI cn2_6), .ref ms, .int (kBase v hf n), .ref me, .ref mp, .ref mc, .ref ml, .ref mb, .ref md, .ref mr, .int spr])), (mh, .inl (cZ, 60, .inl hf)), (ms, .inl (cI, 60, .inl f92_7)), (mp, .inl (cI, 60, .inl pl2_4)), (mc, .inl (cI, 3721, .inl co9)), (ml, .inl (cI, 3721, .inl le9))] := hD
  refine lv_aload_n hx hb dX7_layDivision_18 rfl (lv_at hl 0 rfl) ?_
  refine va_get (D := D) (ci := 7) (v := .int (nI n)) (C := RX7) (T := TX7) (N := 20) hx hb hts hinX7 hown hK hP 4 rfl rfl 1 (by decide) (hts (.fieldLink RX7 60 "SeriesWatcherModel" "many" "I") (by decide +kernel)) (fun _ h9 => h9) rfl dX7_layDivision_19 ?_
  refine lv_iconst (v := nI 1) hx hb dX7_layDivision_22 (by decide) ?_
  refine lv_isub hx hb dX7_layDivision_23 ?_
  refine wt_i (by rw [Int32.sub_eq_add_neg]) ?_
  refine lv_istore_n (lv' := [(1, .int (nI n + (-1 : Int32))), (0, .ref o7)]) hx hb dX7_layDivision_24 rfl hl (by decide) rfl (fun ls hl => ?_)
  refine wl_loop (fun (d9 : Nat) (H : Heap) (locs : List Loc) (ls : Array Slot) => ∃ (t : Nat) (b1 : Nat → Int32) (e1 : Nat → Int32), d9 = t ∧ (t ≤ n) ∧ (kDM co9 ll pen n b1 e1 t) ∧ va_P D vwCl [(mb, .inl (cI, 61, .inl b1)), (md, .inl (cI, 61, .inl e1)), (mv, .inl (cI, 60, .inl v)), (me, .inl (cI, 12, .inl se2_3)), (o7, .inr (7, [.int th, .int (nI n), .ref mv, .ref mh, .int (nI len), .int (nI ll), .int pen, .int bf, .int bl, .int (nI cn2_6), .ref ms, .int (kBase v hf n), .ref me, .ref mp, .ref mc, .ref ml, .ref mb, .ref md, .ref mr, .int spr])), (mh, .inl (cZ, 60, .inl hf)), (ms, .inl (cI, 60, .inl f92_7)), (mp, .inl (cI, 60, .inl pl2_4)), (mc, .inl (cI, 3721, .inl co9)), (ml, .inl (cI, 3721, .inl le9))] H ∧ va_D A [(mb, .inl (cI, 61, .inl b1)), (md, .inl (cI, 61, .inl e1)), (mv, .inl (cI, 60, .inl v)), (me, .inl (cI, 12, .inl se2_3)), (o7, .inr (7, [.int th, .int (nI n), .ref mv, .ref mh, .int (nI len), .int (nI ll), .int pen, .int bf, .int bl, .int (nI cn2_6), .ref ms, .int (kBase v hf n), .ref me, .ref mp, .ref mc, .ref ml, .ref mb, .ref md, .ref mr, .int spr])), (mh, .inl (cZ, 60, .inl hf)), (ms, .inl (cI, 60, .inl f92_7)), (mp, .inl (cI, 60, .inl pl2_4)), (mc, .inl (cI, 3721, .inl co9)), (ml, .inl (cI, 3721, .inl le9))] ∧ va_S A s.heap H locs ∧ lv_has ls 6 [(1, .int (nI t + (-1 : Int32))), (0, .ref o7)]) ?_ _ ⟨n, _, _, rfl, Nat.le_refl n, ⟨pk_us, fun j a b => absurd b (by omega)⟩, hP, hD, hS, lv_sub hl [0, 1] rfl⟩
  rintro d_10 H locs ls ⟨t, b1, e1, hd_11, ht, hd, hP, hD, hS, hl⟩ ih_9
  refine lv_iload_n hx hb dX7_layDivision_25 rfl (lv_at hl 0 rfl) ?_
  refine lv_if_lt (tgt := 210) hx hb dX7_layDivision_26 (by decide) (fun c26 => ?_) (fun c26 => ?_)
  · skip
    have et : t = 0 := by rcases Nat.eq_zero_or_pos t with q | q; exact q; exact absurd (show nI (t - 1) < nI 0 by rw [← pk_m1, Nat.sub_add_cancel q]; exact c26) (fun z => by have := klt z (by omega) (by omega); omega)
    rw [et] at hd
    exact krv hx hb hr hlocks hP hK hD hS (_, _, _, _, _, _, _, _) (⟨hse.1, hse.2, htb, hd⟩) [4, 2, 5, 6, 3, 7, 8, 9, 0, 1] (by decide +kernel) rfl dX7_layDivision_210
  · skip
    obtain ⟨u, rfl⟩ : ∃ u, t = u + 1 := ⟨t - 1, by rcases Nat.eq_zero_or_pos t with q | q; (rw [q] at c26; exact absurd (by decide) c26); omega⟩
    rw [pk_m1] at hl
    refine lv_aload_n hx hb dX7_layDivision_29 rfl (lv_at hl 1 rfl) ?_
    refine va_get (D := D) (ci := 7) (v := .ref mb) (C := RX7) (T := TX7) (N := 20) hx hb hts hinX7 hown hK hP 4 rfl rfl 16 (by decide) (hts (.fieldLink RX7 48 "SeriesWatcherModel" "best" "[I") (by decide +kernel)) (fun _ h9 => h9) rfl dX7_layDivision_30 ?_
    refine lv_iload_n hx hb dX7_layDivision_33 rfl (lv_at hl 0 rfl) ?_
    refine lv_ldc (v := nI 1000000000) hx hb hown (hts (.constant RX7 94 (1000000000)) (by decide +kernel)) dX7_layDivision_34 ?_
    refine va_iast (D := D) hx hb hK hP hD hS 0 0 rfl rfl (vp_in_nI (by omega) (by decide)) dX7_layDivision_36 (fun H locs hP hD hS => ?_)
    rw [nI_clamp (n := u) (by omega)] at hP hD
    have hP : va_P D vwCl [(mb, .inl (cI, 61, .inl (upd b1 u (nI 1000000000)))), (md, .inl (cI, 61, .inl e1)), (mv, .inl (cI, 60, .inl v)), (me, .inl (cI, 12, .inl se2_3)), (o7, .inr (7, [.int th, .int (nI n), .ref mv, .ref mh, .int (nI len), .int (nI ll), .int pen, .int bf, .int bl, .int (nI cn2_6), .ref ms, .int (kBase v hf n), .ref me, .ref mp, .ref mc, .ref ml, .ref mb, .ref md, .ref mr, .int spr])), (mh, .inl (cZ, 60, .inl hf)), (ms, .inl (cI, 60, .inl f92_7)), (mp, .inl (cI, 60, .inl pl2_4)), (mc, .inl (cI, 3721, .inl co9)), (ml, .inl (cI, 3721, .inl le9))] H := hP
    have hD : va_D A [(mb, .inl (cI, 61, .inl (upd b1 u (nI 1000000000)))), (md, .inl (cI, 61, .inl e1)), (mv, .inl (cI, 60, .inl v)), (me, .inl (cI, 12, .inl se2_3)), (o7, .inr (7, [.int th, .int (nI n), .ref mv, .ref mh, .int (nI len), .int (nI ll), .int pen, .int bf, .int bl, .int (nI cn2_6), .ref ms, .int (kBase v hf n), .ref me, .ref mp, .ref mc, .ref ml, .ref mb, .ref md, .ref mr, .int spr])), (mh, .inl (cZ, 60, .inl hf)), (ms, .inl (cI, 60, .inl f92_7)), (mp, .inl (cI, 60, .inl pl2_4)), (mc, .inl (cI, 3721, .inl co9)), (ml, .inl (cI, 3721, .inl le9))] := hD
    refine lv_aload_n hx hb dX7_layDivision_37 rfl (lv_at hl 1 rfl) ?_
    refine va_get (D := D) (ci := 7) (v := .ref md) (C := RX7) (T := TX7) (N := 20) hx hb hts hinX7 hown hK hP 4 rfl rfl 17 (by decide) (hts (.fieldLink RX7 51 "SeriesWatcherModel" "end" "[I") (by decide +kernel)) (fun _ h9 => h9) rfl dX7_layDivision_38 ?_
    refine lv_iload_n hx hb dX7_layDivision_41 rfl (lv_at hl 0 rfl) ?_
    refine lv_aload_n hx hb dX7_layDivision_42 rfl (lv_at hl 1 rfl) ?_
    refine va_get (D := D) (ci := 7) (v := .int (nI n)) (C := RX7) (T := TX7) (N := 20) hx hb hts hinX7 hown hK hP 4 rfl rfl 1 (by decide) (hts (.fieldLink RX7 60 "SeriesWatcherModel" "many" "I") (by decide +kernel)) (fun _ h9 => h9) rfl dX7_layDivision_43 ?_
    refine va_iast (D := D) hx hb hK hP hD hS 1 0 rfl rfl (vp_in_nI (by omega) (by decide)) dX7_layDivision_46 (fun H locs hP hD hS => ?_)
    rw [nI_clamp (n := u) (by omega)] at hP hD
    have hP : va_P D vwCl [(mb, .inl (cI, 61, .inl (upd b1 u (nI 1000000000)))), (md, .inl (cI, 61, .inl (upd e1 u (nI n)))), (mv, .inl (cI, 60, .inl v)), (me, .inl (cI, 12, .inl se2_3)), (o7, .inr (7, [.int th, .int (nI n), .ref mv, .ref mh, .int (nI len), .int (nI ll), .int pen, .int bf, .int bl, .int (nI cn2_6), .ref ms, .int (kBase v hf n), .ref me, .ref mp, .ref mc, .ref ml, .ref mb, .ref md, .ref mr, .int spr])), (mh, .inl (cZ, 60, .inl hf)), (ms, .inl (cI, 60, .inl f92_7)), (mp, .inl (cI, 60, .inl pl2_4)), (mc, .inl (cI, 3721, .inl co9)), (ml, .inl (cI, 3721, .inl le9))] H := hP
    have hD : va_D A [(mb, .inl (cI, 61, .inl (upd b1 u (nI 1000000000)))), (md, .inl (cI, 61, .inl (upd e1 u (nI n)))), (mv, .inl (cI, 60, .inl v)), (me, .inl (cI, 12, .inl se2_3)), (o7, .inr (7, [.int th, .int (nI n), .ref mv, .ref mh, .int (nI len), .int (nI ll), .int pen, .int bf, .int bl, .int (nI cn2_6), .ref ms, .int (kBase v hf n), .ref me, .ref mp, .ref mc, .ref ml, .ref mb, .ref md, .ref mr, .int spr])), (mh, .inl (cZ, 60, .inl hf)), (ms, .inl (cI, 60, .inl f92_7)), (mp, .inl (cI, 60, .inl pl2_4)), (mc, .inl (cI, 3721, .inl co9)), (ml, .inl (cI, 3721, .inl le9))] := hD
    refine lv_iload_n hx hb dX7_layDivision_47 rfl (lv_at hl 0 rfl) ?_
    refine lv_iconst (v := nI 1) hx hb dX7_layDivision_48 (by decide) ?_
    refine lv_iadd hx hb dX7_layDivision_49 ?_
    refine wt_i (nI_add _ _) ?_
    refine lv_istore_n (lv' := [(2, .int (nI (u + 1))), (1, .int (nI u)), (0, .ref o7)]) hx hb dX7_layDivision_50 rfl hl (by decide) rfl (fun ls hl => ?_)
    refine wl_loop (fun (d9 : Nat) (H : Heap) (locs : List Loc) (ls : Array Slot) => ∃ (e : Nat) (b2 : Nat → Int32) (e2 : Nat → Int32), d9 = n + 1 - e ∧ (u + 1 ≤ e) ∧ (e ≤ n + 1) ∧ (ku2 b1 e1 u (kmTo co9 ll pen n b1 u (e - (u + 1))) b2 e2) ∧ va_P D vwCl [(mb, .inl (cI, 61, .inl b2)), (md, .inl (cI, 61, .inl e2)), (mv, .inl (cI, 60, .inl v)), (me, .inl (cI, 12, .inl se2_3)), (o7, .inr (7, [.int th, .int (nI n), .ref mv, .ref mh, .int (nI len), .int (nI ll), .int pen, .int bf, .int bl, .int (nI cn2_6), .ref ms, .int (kBase v hf n), .ref me, .ref mp, .ref mc, .ref ml, .ref mb, .ref md, .ref mr, .int spr])), (mh, .inl (cZ, 60, .inl hf)), (ms, .inl (cI, 60, .inl f92_7)), (mp, .inl (cI, 60, .inl pl2_4)), (mc, .inl (cI, 3721, .inl co9)), (ml, .inl (cI, 3721, .inl le9))] H ∧ va_D A [(mb, .inl (cI, 61, .inl b2)), (md, .inl (cI, 61, .inl e2)), (mv, .inl (cI, 60, .inl v)), (me, .inl (cI, 12, .inl se2_3)), (o7, .inr (7, [.int th, .int (nI n), .ref mv, .ref mh, .int (nI len), .int (nI ll), .int pen, .int bf, .int bl, .int (nI cn2_6), .ref ms, .int (kBase v hf n), .ref me, .ref mp, .ref mc, .ref ml, .ref mb, .ref md, .ref mr, .int spr])), (mh, .inl (cZ, 60, .inl hf)), (ms, .inl (cI, 60, .inl f92_7)), (mp, .inl (cI, 60, .inl pl2_4)), (mc, .inl (cI, 3721, .inl co9)), (ml, .inl (cI, 3721, .inl le9))] ∧ va_S A s.heap H locs ∧ lv_has ls 6 [(2, .int (nI e)), (1, .int (nI u)), (0, .ref o7)]) ?_ _ ⟨(u + 1), _, _, rfl, Nat.le_refl _, by omega, by rw [Nat.sub_self]; exact ⟨rfl, rfl⟩, hP, hD, hS, lv_sub hl [0, 1, 2] rfl⟩
    rintro d_13 H locs ls ⟨e, b2, e2, hd_14, he1, he2, hu, hP, hD, hS, hl⟩ ih_12
    refine lv_iload_n hx hb dX7_layDivision_51 rfl (lv_at hl 0 rfl) ?_
    refine lv_aload_n hx hb dX7_layDivision_52 rfl (lv_at hl 2 rfl) ?_
    refine va_get (D := D) (ci := 7) (v := .int (nI n)) (C := RX7) (T := TX7) (N := 20) hx hb hts hinX7 hown hK hP 4 rfl rfl 1 (by decide) (hts (.fieldLink RX7 60 "SeriesWatcherModel" "many" "I") (by decide +kernel)) (fun _ h9 => h9) rfl dX7_layDivision_53 ?_
    refine lv_icmp_gt (tgt := 204) hx hb dX7_layDivision_56 (by decide) (fun c56 => ?_) (fun c56 => ?_)
    · skip
      have c56 := klt (a := n) (b := e) c56 (by omega) (by omega)
      have ee : e = n + 1 := by omega
      rw [ee, show n + 1 - (u + 1) = n - u by omega] at hu
      refine lv_iinc (v := nI u + (-1 : Int32)) (lv' := [(1, .int (nI u + (-1 : Int32))), (2, .int (nI e)), (0, .ref o7)]) hx hb dX7_layDivision_204 hl (k := 1) rfl (by rfl) (by decide) rfl (fun ls hl => ?_)
      refine lv_goto (tgt := 25) hx hb dX7_layDivision_207 (by decide) ?_
      exact ih_9 _ (by omega) _ _ _ ⟨u, _, _, rfl, by omega, kDM_step (by omega) hd hu, hP, hD, hS, lv_sub hl [0, 2] rfl⟩
    · skip
      have c56 := knlt (a := n) (b := e) c56 (by omega) (by omega)
      refine wl_join (pc2 := 86) (fun (stk : List Value) (H : Heap) (locs : List Loc) (ls : Array Slot) => ∃ (x : Int32), stk = [.int x] ∧ ((x = nI 1 ∧ (ll ≤ e - u ∨ (u = 0 ∧ e = n))) ∨ (x = nI 0 ∧ ¬ (ll ≤ e - u ∨ (u = 0 ∧ e = n)))) ∧ va_P D vwCl [(mb, .inl (cI, 61, .inl b2)), (md, .inl (cI, 61, .inl e2)), (mv, .inl (cI, 60, .inl v)), (me, .inl (cI, 12, .inl se2_3)), (o7, .inr (7, [.int th, .int (nI n), .ref mv, .ref mh, .int (nI len), .int (nI ll), .int pen, .int bf, .int bl, .int (nI cn2_6), .ref ms, .int (kBase v hf n), .ref me, .ref mp, .ref mc, .ref ml, .ref mb, .ref md, .ref mr, .int spr])), (mh, .inl (cZ, 60, .inl hf)), (ms, .inl (cI, 60, .inl f92_7)), (mp, .inl (cI, 60, .inl pl2_4)), (mc, .inl (cI, 3721, .inl co9)), (ml, .inl (cI, 3721, .inl le9))] H ∧ va_D A [(mb, .inl (cI, 61, .inl b2)), (md, .inl (cI, 61, .inl e2)), (mv, .inl (cI, 60, .inl v)), (me, .inl (cI, 12, .inl se2_3)), (o7, .inr (7, [.int th, .int (nI n), .ref mv, .ref mh, .int (nI len), .int (nI ll), .int pen, .int bf, .int bl, .int (nI cn2_6), .ref ms, .int (kBase v hf n), .ref me, .ref mp, .ref mc, .ref ml, .ref mb, .ref md, .ref mr, .int spr])), (mh, .inl (cZ, 60, .inl hf)), (ms, .inl (cI, 60, .inl f92_7)), (mp, .inl (cI, 60, .inl pl2_4)), (mc, .inl (cI, 3721, .inl co9)), (ml, .inl (cI, 3721, .inl le9))] ∧ va_S A s.heap H locs ∧ lv_has ls 6 [(2, .int (nI e)), (1, .int (nI u)), (0, .ref o7)]) ?_ (fun j_15 => ?_)
      · skip
        rintro stk H locs ls ⟨x, rfl, hL, hP, hD, hS, hl⟩
        refine lv_istore_n (lv' := [(3, .int x), (2, .int (nI e)), (1, .int (nI u)), (0, .ref o7)]) hx hb dX7_layDivision_86 rfl hl (by decide) rfl (fun ls hl => ?_)
        refine wl_join (pc2 := 115) (fun (stk : List Value) (H : Heap) (locs : List Loc) (ls : Array Slot) => ∃ (y : Int32), stk = [.int y] ∧ ((y = nI 1 ∧ ((ll ≤ e - u ∨ (u = 0 ∧ e = n)) ∧ (e = n ∨ b1 e < 1000000000))) ∨ (y = nI 0 ∧ ¬ ((ll ≤ e - u ∨ (u = 0 ∧ e = n)) ∧ (e = n ∨ b1 e < 1000000000)))) ∧ va_P D vwCl [(mb, .inl (cI, 61, .inl b2)), (md, .inl (cI, 61, .inl e2)), (mv, .inl (cI, 60, .inl v)), (me, .inl (cI, 12, .inl se2_3)), (o7, .inr (7, [.int th, .int (nI n), .ref mv, .ref mh, .int (nI len), .int (nI ll), .int pen, .int bf, .int bl, .int (nI cn2_6), .ref ms, .int (kBase v hf n), .ref me, .ref mp, .ref mc, .ref ml, .ref mb, .ref md, .ref mr, .int spr])), (mh, .inl (cZ, 60, .inl hf)), (ms, .inl (cI, 60, .inl f92_7)), (mp, .inl (cI, 60, .inl pl2_4)), (mc, .inl (cI, 3721, .inl co9)), (ml, .inl (cI, 3721, .inl le9))] H ∧ va_D A [(mb, .inl (cI, 61, .inl b2)), (md, .inl (cI, 61, .inl e2)), (mv, .inl (cI, 60, .inl v)), (me, .inl (cI, 12, .inl se2_3)), (o7, .inr (7, [.int th, .int (nI n), .ref mv, .ref mh, .int (nI len), .int (nI ll), .int pen, .int bf, .int bl, .int (nI cn2_6), .ref ms, .int (kBase v hf n), .ref me, .ref mp, .ref mc, .ref ml, .ref mb, .ref md, .ref mr, .int spr])), (mh, .inl (cZ, 60, .inl hf)), (ms, .inl (cI, 60, .inl f92_7)), (mp, .inl (cI, 60, .inl pl2_4)), (mc, .inl (cI, 3721, .inl co9)), (ml, .inl (cI, 3721, .inl le9))] ∧ va_S A s.heap H locs ∧ lv_has ls 6 [(3, .int x), (2, .int (nI e)), (1, .int (nI u)), (0, .ref o7)]) ?_ (fun j_16 => ?_)
        · skip
          rintro stk H locs ls ⟨y, rfl, hG, hP, hD, hS, hl⟩
          refine lv_istore (lv' := [(4, .int y), (3, .int x), (2, .int (nI e)), (1, .int (nI u)), (0, .ref o7)]) hx hb dX7_layDivision_115 hl (by decide) rfl (fun ls hl => ?_)
          refine wl_join (pc2 := 170) (fun (stk : List Value) (H : Heap) (locs : List Loc) (ls : Array Slot) => ∃ (z : Int32), stk = [.int z] ∧ (z = kmsum co9 ll pen n b1 u e) ∧ va_P D vwCl [(mb, .inl (cI, 61, .inl b2)), (md, .inl (cI, 61, .inl e2)), (mv, .inl (cI, 60, .inl v)), (me, .inl (cI, 12, .inl se2_3)), (o7, .inr (7, [.int th, .int (nI n), .ref mv, .ref mh, .int (nI len), .int (nI ll), .int pen, .int bf, .int bl, .int (nI cn2_6), .ref ms, .int (kBase v hf n), .ref me, .ref mp, .ref mc, .ref ml, .ref mb, .ref md, .ref mr, .int spr])), (mh, .inl (cZ, 60, .inl hf)), (ms, .inl (cI, 60, .inl f92_7)), (mp, .inl (cI, 60, .inl pl2_4)), (mc, .inl (cI, 3721, .inl co9)), (ml, .inl (cI, 3721, .inl le9))] H ∧ va_D A [(mb, .inl (cI, 61, .inl b2)), (md, .inl (cI, 61, .inl e2)), (mv, .inl (cI, 60, .inl v)), (me, .inl (cI, 12, .inl se2_3)), (o7, .inr (7, [.int th, .int (nI n), .ref mv, .ref mh, .int (nI len), .int (nI ll), .int pen, .int bf, .int bl, .int (nI cn2_6), .ref ms, .int (kBase v hf n), .ref me, .ref mp, .ref mc, .ref ml, .ref mb, .ref md, .ref mr, .int spr])), (mh, .inl (cZ, 60, .inl hf)), (ms, .inl (cI, 60, .inl f92_7)), (mp, .inl (cI, 60, .inl pl2_4)), (mc, .inl (cI, 3721, .inl co9)), (ml, .inl (cI, 3721, .inl le9))] ∧ va_S A s.heap H locs ∧ lv_has ls 6 [(4, .int y), (3, .int x), (2, .int (nI e)), (1, .int (nI u)), (0, .ref o7)]) ?_ (fun j_17 => ?_)
          · skip
            rintro stk H locs ls ⟨z, rfl, hz, hP, hD, hS, hl⟩
            refine lv_istore (lv' := [(5, .int z), (4, .int y), (3, .int x), (2, .int (nI e)), (1, .int (nI u)), (0, .ref o7)]) hx hb dX7_layDivision_170 hl (by decide) rfl (fun ls hl => ?_)
            refine lv_iload hx hb dX7_layDivision_172 (lv_at hl 0 rfl) ?_
            refine lv_aload_n hx hb dX7_layDivision_174 rfl (lv_at hl 5 rfl) ?_
            refine va_get (D := D) (ci := 7) (v := .ref mb) (C := RX7) (T := TX7) (N := 20) hx hb hts hinX7 hown hK hP 4 rfl rfl 16 (by decide) (hts (.fieldLink RX7 48 "SeriesWatcherModel" "best" "[I") (by decide +kernel)) (fun _ h9 => h9) rfl dX7_layDivision_175 ?_
            refine lv_iload_n hx hb dX7_layDivision_178 rfl (lv_at hl 4 rfl) ?_
            refine va_iald (D := D) hx hb hK hP 0 0 rfl rfl (vp_in_nI (by omega) (by decide)) dX7_layDivision_179 ?_
            refine wt_i (by rw [nI_clamp (n := u) (by omega)]) ?_
            refine wt_i (by rw [hu.1, pk_us]) ?_
            refine lv_icmp_ge (tgt := 198) hx hb dX7_layDivision_180 (by decide) (fun c180 => ?_) (fun c180 => ?_)
            · skip
              have hu2 : ku2 b1 e1 u (kmTo co9 ll pen n b1 u (e + 1 - (u + 1))) b2 e2 := by rw [kmTo_s (by omega), ← hz, if_neg (Int32.not_lt.mpr c180)]; exact hu
              refine lv_iinc (v := nI (e + 1)) (lv' := [(2, .int (nI (e + 1))), (5, .int z), (4, .int y), (3, .int x), (1, .int (nI u)), (0, .ref o7)]) hx hb dX7_layDivision_198 hl (k := 3) rfl (by exact nI_add _ 1) (by decide) rfl (fun ls hl => ?_)
              refine lv_goto (tgt := 51) hx hb dX7_layDivision_201 (by decide) ?_
              exact ih_12 _ (by omega) _ _ _ ⟨(e + 1), _, _, rfl, by omega, by omega, hu2, hP, hD, hS, lv_sub hl [0, 4, 5] rfl⟩
            · skip
              have hu2 : ku2 b1 e1 u (kmTo co9 ll pen n b1 u (e + 1 - (u + 1))) (upd b2 u z) (upd e2 u (nI e)) := by rw [kmTo_s (by omega), ← hz, if_pos (Int32.not_le.mp c180)]; exact ku2_up hu
              refine lv_aload_n hx hb dX7_layDivision_183 rfl (lv_at hl 5 rfl) ?_
              refine va_get (D := D) (ci := 7) (v := .ref mb) (C := RX7) (T := TX7) (N := 20) hx hb hts hinX7 hown hK hP 4 rfl rfl 16 (by decide) (hts (.fieldLink RX7 48 "SeriesWatcherModel" "best" "[I") (by decide +kernel)) (fun _ h9 => h9) rfl dX7_layDivision_184 ?_
              refine lv_iload_n hx hb dX7_layDivision_187 rfl (lv_at hl 4 rfl) ?_
              refine lv_iload hx hb dX7_layDivision_188 (lv_at hl 0 rfl) ?_
              refine va_iast (D := D) hx hb hK hP hD hS 0 0 rfl rfl (vp_in_nI (by omega) (by decide)) dX7_layDivision_190 (fun H locs hP hD hS => ?_)
              rw [nI_clamp (n := u) (by omega)] at hP hD
              have hP : va_P D vwCl [(mb, .inl (cI, 61, .inl (upd b2 u z))), (md, .inl (cI, 61, .inl e2)), (mv, .inl (cI, 60, .inl v)), (me, .inl (cI, 12, .inl se2_3)), (o7, .inr (7, [.int th, .int (nI n), .ref mv, .ref mh, .int (nI len), .int (nI ll), .int pen, .int bf, .int bl, .int (nI cn2_6), .ref ms, .int (kBase v hf n), .ref me, .ref mp, .ref mc, .ref ml, .ref mb, .ref md, .ref mr, .int spr])), (mh, .inl (cZ, 60, .inl hf)), (ms, .inl (cI, 60, .inl f92_7)), (mp, .inl (cI, 60, .inl pl2_4)), (mc, .inl (cI, 3721, .inl co9)), (ml, .inl (cI, 3721, .inl le9))] H := hP
              have hD : va_D A [(mb, .inl (cI, 61, .inl (upd b2 u z))), (md, .inl (cI, 61, .inl e2)), (mv, .inl (cI, 60, .inl v)), (me, .inl (cI, 12, .inl se2_3)), (o7, .inr (7, [.int th, .int (nI n), .ref mv, .ref mh, .int (nI len), .int (nI ll), .int pen, .int bf, .int bl, .int (nI cn2_6), .ref ms, .int (kBase v hf n), .ref me, .ref mp, .ref mc, .ref ml, .ref mb, .ref md, .ref mr, .int spr])), (mh, .inl (cZ, 60, .inl hf)), (ms, .inl (cI, 60, .inl f92_7)), (mp, .inl (cI, 60, .inl pl2_4)), (mc, .inl (cI, 3721, .inl co9)), (ml, .inl (cI, 3721, .inl le9))] := hD
              refine lv_aload_n hx hb dX7_layDivision_191 rfl (lv_at hl 5 rfl) ?_
              refine va_get (D := D) (ci := 7) (v := .ref md) (C := RX7) (T := TX7) (N := 20) hx hb hts hinX7 hown hK hP 4 rfl rfl 17 (by decide) (hts (.fieldLink RX7 51 "SeriesWatcherModel" "end" "[I") (by decide +kernel)) (fun _ h9 => h9) rfl dX7_layDivision_192 ?_
              refine lv_iload_n hx hb dX7_layDivision_195 rfl (lv_at hl 4 rfl) ?_
              refine lv_iload_n hx hb dX7_layDivision_196 rfl (lv_at hl 3 rfl) ?_
              refine va_iast (D := D) hx hb hK hP hD hS 1 0 rfl rfl (vp_in_nI (by omega) (by decide)) dX7_layDivision_197 (fun H locs hP hD hS => ?_)
              rw [nI_clamp (n := u) (by omega)] at hP hD
              have hP : va_P D vwCl [(mb, .inl (cI, 61, .inl (upd b2 u z))), (md, .inl (cI, 61, .inl (upd e2 u (nI e)))), (mv, .inl (cI, 60, .inl v)), (me, .inl (cI, 12, .inl se2_3)), (o7, .inr (7, [.int th, .int (nI n), .ref mv, .ref mh, .int (nI len), .int (nI ll), .int pen, .int bf, .int bl, .int (nI cn2_6), .ref ms, .int (kBase v hf n), .ref me, .ref mp, .ref mc, .ref ml, .ref mb, .ref md, .ref mr, .int spr])), (mh, .inl (cZ, 60, .inl hf)), (ms, .inl (cI, 60, .inl f92_7)), (mp, .inl (cI, 60, .inl pl2_4)), (mc, .inl (cI, 3721, .inl co9)), (ml, .inl (cI, 3721, .inl le9))] H := hP
              have hD : va_D A [(mb, .inl (cI, 61, .inl (upd b2 u z))), (md, .inl (cI, 61, .inl (upd e2 u (nI e)))), (mv, .inl (cI, 60, .inl v)), (me, .inl (cI, 12, .inl se2_3)), (o7, .inr (7, [.int th, .int (nI n), .ref mv, .ref mh, .int (nI len), .int (nI ll), .int pen, .int bf, .int bl, .int (nI cn2_6), .ref ms, .int (kBase v hf n), .ref me, .ref mp, .ref mc, .ref ml, .ref mb, .ref md, .ref mr, .int spr])), (mh, .inl (cZ, 60, .inl hf)), (ms, .inl (cI, 60, .inl f92_7)), (mp, .inl (cI, 60, .inl pl2_4)), (mc, .inl (cI, 3721, .inl co9)), (ml, .inl (cI, 3721, .inl le9))] := hD
              refine lv_iinc (v := nI (e + 1)) (lv' := [(2, .int (nI (e + 1))), (5, .int z), (4, .int y), (3, .int x), (1, .int (nI u)), (0, .ref o7)]) hx hb dX7_layDivision_198 hl (k := 3) rfl (by exact nI_add _ 1) (by decide) rfl (fun ls hl => ?_)
              refine lv_goto (tgt := 51) hx hb dX7_layDivision_201 (by decide) ?_
              exact ih_12 _ (by omega) _ _ _ ⟨(e + 1), _, _, rfl, by omega, by omega, hu2, hP, hD, hS, lv_sub hl [0, 4, 5] rfl⟩
          refine lv_iload hx hb dX7_layDivision_117 (lv_at hl 0 rfl) ?_
          refine lv_if_eq (tgt := 168) hx hb dX7_layDivision_119 (by decide) (fun c119 => ?_) (fun c119 => ?_)
          · skip
            have hG2 : ¬ ((ll ≤ e - u ∨ (u = 0 ∧ e = n)) ∧ (e = n ∨ b1 e < 1000000000)) := hG.elim (fun q => absurd (q.1.symm.trans c119) (by decide)) (fun q => q.2)
            refine lv_ldc (v := nI 1000000000) hx hb hown (hts (.constant RX7 94 (1000000000)) (by decide +kernel)) dX7_layDivision_168 ?_
            exact j_17 _ _ _ _ ⟨_, rfl, by unfold kmsum; rw [if_neg hG2]; rfl, hP, hD, hS, lv_sub hl [0, 1, 2, 3, 4] rfl⟩
          · skip
            have hG2 : ((ll ≤ e - u ∨ (u = 0 ∧ e = n)) ∧ (e = n ∨ b1 e < 1000000000)) := hG.elim (fun q => q.2) (fun q => absurd q.1 c119)
            refine lv_bipush (v := nI 64) hx hb dX7_layDivision_122 (by decide) ?_
            refine lv_aload_n hx hb dX7_layDivision_124 rfl (lv_at hl 4 rfl) ?_
            refine va_get (D := D) (ci := 7) (v := .ref mc) (C := RX7) (T := TX7) (N := 20) hx hb hts hinX7 hown hK hP 4 rfl rfl 14 (by decide) (hts (.fieldLink RX7 42 "SeriesWatcherModel" "costs" "[I") (by decide +kernel)) (fun _ h9 => h9) rfl dX7_layDivision_125 ?_
            refine lv_bipush (v := nI 61) hx hb dX7_layDivision_128 (by decide) ?_
            refine lv_iload_n hx hb dX7_layDivision_130 rfl (lv_at hl 3 rfl) ?_
            refine lv_imul hx hb dX7_layDivision_131 ?_
            refine wt_i (pk_mul _ _) ?_
            refine lv_iload_n hx hb dX7_layDivision_132 rfl (lv_at hl 2 rfl) ?_
            refine lv_iadd hx hb dX7_layDivision_133 ?_
            refine wt_i (nI_add _ _) ?_
            refine va_iald (D := D) hx hb hK hP 8 0 rfl rfl (vp_in_nI (by omega) (by decide)) dX7_layDivision_134 ?_
            refine wt_i (by rw [nI_clamp (n := ((61 * u) + e)) (by omega)]) ?_
            refine lv_imul hx hb dX7_layDivision_135 ?_
            refine lv_iload_n hx hb dX7_layDivision_136 rfl (lv_at hl 2 rfl) ?_
            refine lv_aload_n hx hb dX7_layDivision_137 rfl (lv_at hl 4 rfl) ?_
            refine va_get (D := D) (ci := 7) (v := .int (nI n)) (C := RX7) (T := TX7) (N := 20) hx hb hts hinX7 hown hK hP 4 rfl rfl 1 (by decide) (hts (.fieldLink RX7 60 "SeriesWatcherModel" "many" "I") (by decide +kernel)) (fun _ h9 => h9) rfl dX7_layDivision_138 ?_
            refine lv_icmp_ne (tgt := 148) hx hb dX7_layDivision_141 (by decide) (fun c141 => ?_) (fun c141 => ?_)
            · skip
              have c141 := kneq (a := e) (b := n) c141 (by omega) (by omega)
              refine lv_aload_n hx hb dX7_layDivision_148 rfl (lv_at hl 4 rfl) ?_
              refine va_get (D := D) (ci := 7) (v := .ref mb) (C := RX7) (T := TX7) (N := 20) hx hb hts hinX7 hown hK hP 4 rfl rfl 16 (by decide) (hts (.fieldLink RX7 48 "SeriesWatcherModel" "best" "[I") (by decide +kernel)) (fun _ h9 => h9) rfl dX7_layDivision_149 ?_
              refine lv_iload_n hx hb dX7_layDivision_152 rfl (lv_at hl 2 rfl) ?_
              refine va_iald (D := D) hx hb hK hP 0 0 rfl rfl (vp_in_nI (by omega) (by decide)) dX7_layDivision_153 ?_
              refine wt_i (by rw [nI_clamp (n := e) (by omega)]) ?_
              refine wt_i (by rw [hu.1, pk_un (by omega)]) ?_
              refine lv_bipush (v := nI 64) hx hb dX7_layDivision_154 (by decide) ?_
              refine lv_aload_n hx hb dX7_layDivision_156 rfl (lv_at hl 4 rfl) ?_
              refine va_get (D := D) (ci := 7) (v := .int pen) (C := RX7) (T := TX7) (N := 20) hx hb hts hinX7 hown hK hP 4 rfl rfl 6 (by decide) (hts (.fieldLink RX7 24 "SeriesWatcherModel" "penalty" "I") (by decide +kernel)) (fun _ h9 => h9) rfl dX7_layDivision_157 ?_
              refine lv_imul hx hb dX7_layDivision_160 ?_
              refine lv_iadd hx hb dX7_layDivision_161 ?_
              refine lv_iconst (v := nI 1) hx hb dX7_layDivision_162 (by decide) ?_
              refine lv_iadd hx hb dX7_layDivision_163 ?_
              refine lv_iadd hx hb dX7_layDivision_164 ?_
              refine lv_goto (tgt := 170) hx hb dX7_layDivision_165 (by decide) ?_
              exact j_17 _ _ _ _ ⟨_, rfl, by unfold kmsum; rw [if_pos hG2]; first | (rw [if_pos c141]; rfl) | (rw [if_neg c141]; rfl), hP, hD, hS, lv_sub hl [0, 1, 2, 3, 4] rfl⟩
            · skip
              have c141 := keq (a := e) (b := n) c141 (by omega) (by omega)
              refine lv_iconst (v := nI 0) hx hb dX7_layDivision_144 (by decide) ?_
              refine lv_goto (tgt := 164) hx hb dX7_layDivision_145 (by decide) ?_
              refine lv_iadd hx hb dX7_layDivision_164 ?_
              refine lv_goto (tgt := 170) hx hb dX7_layDivision_165 (by decide) ?_
              exact j_17 _ _ _ _ ⟨_, rfl, by unfold kmsum; rw [if_pos hG2]; first | (rw [if_pos c141]; rfl) | (rw [if_neg c141]; rfl), hP, hD, hS, lv_sub hl [0, 1, 2, 3, 4] rfl⟩
        refine lv_iload_n hx hb dX7_layDivision_87 rfl (lv_at hl 0 rfl) ?_
        refine lv_if_eq (tgt := 114) hx hb dX7_layDivision_88 (by decide) (fun c88 => ?_) (fun c88 => ?_)
        · skip
          have hL2 : ¬ (ll ≤ e - u ∨ (u = 0 ∧ e = n)) := hL.elim (fun q => absurd (q.1.symm.trans c88) (by decide)) (fun q => q.2)
          refine lv_iconst (v := nI 0) hx hb dX7_layDivision_114 (by decide) ?_
          exact j_16 _ _ _ _ ⟨_, rfl, by first | exact Or.inr ⟨rfl, fun q => hL2 q.1⟩ | exact Or.inr ⟨rfl, fun q => q.2.elim c96 (fun z => absurd z (Int32.not_lt.mpr c107))⟩, hP, hD, hS, lv_sub hl [0, 1, 2, 3] rfl⟩
        · skip
          have hL2 : (ll ≤ e - u ∨ (u = 0 ∧ e = n)) := hL.elim (fun q => q.2) (fun q => absurd q.1 c88)
          refine lv_iload_n hx hb dX7_layDivision_91 rfl (lv_at hl 1 rfl) ?_
          refine lv_aload_n hx hb dX7_layDivision_92 rfl (lv_at hl 3 rfl) ?_
          refine va_get (D := D) (ci := 7) (v := .int (nI n)) (C := RX7) (T := TX7) (N := 20) hx hb hts hinX7 hown hK hP 4 rfl rfl 1 (by decide) (hts (.fieldLink RX7 60 "SeriesWatcherModel" "many" "I") (by decide +kernel)) (fun _ h9 => h9) rfl dX7_layDivision_93 ?_
          refine lv_icmp_eq (tgt := 110) hx hb dX7_layDivision_96 (by decide) (fun c96 => ?_) (fun c96 => ?_)
          · skip
            have c96 := keq (a := e) (b := n) c96 (by omega) (by omega)
            refine lv_iconst (v := nI 1) hx hb dX7_layDivision_110 (by decide) ?_
            refine lv_goto (tgt := 115) hx hb dX7_layDivision_111 (by decide) ?_
            exact j_16 _ _ _ _ ⟨_, rfl, by first | exact Or.inl ⟨rfl, hL2, Or.inl c96⟩ | exact Or.inl ⟨rfl, hL2, Or.inr (Int32.not_le.mp c107)⟩, hP, hD, hS, lv_sub hl [0, 1, 2, 3] rfl⟩
          · skip
            have c96 := kneq (a := e) (b := n) c96 (by omega) (by omega)
            refine lv_aload_n hx hb dX7_layDivision_99 rfl (lv_at hl 3 rfl) ?_
            refine va_get (D := D) (ci := 7) (v := .ref mb) (C := RX7) (T := TX7) (N := 20) hx hb hts hinX7 hown hK hP 4 rfl rfl 16 (by decide) (hts (.fieldLink RX7 48 "SeriesWatcherModel" "best" "[I") (by decide +kernel)) (fun _ h9 => h9) rfl dX7_layDivision_100 ?_
            refine lv_iload_n hx hb dX7_layDivision_103 rfl (lv_at hl 1 rfl) ?_
            refine va_iald (D := D) hx hb hK hP 0 0 rfl rfl (vp_in_nI (by omega) (by decide)) dX7_layDivision_104 ?_
            refine wt_i (by rw [nI_clamp (n := e) (by omega)]) ?_
            refine wt_i (by rw [hu.1, pk_un (by omega)]) ?_
            refine lv_ldc (v := nI 1000000000) hx hb hown (hts (.constant RX7 94 (1000000000)) (by decide +kernel)) dX7_layDivision_105 ?_
            refine lv_icmp_ge (tgt := 114) hx hb dX7_layDivision_107 (by decide) (fun c107 => ?_) (fun c107 => ?_)
            · skip
              refine lv_iconst (v := nI 0) hx hb dX7_layDivision_114 (by decide) ?_
              exact j_16 _ _ _ _ ⟨_, rfl, by first | exact Or.inr ⟨rfl, fun q => hL2 q.1⟩ | exact Or.inr ⟨rfl, fun q => q.2.elim c96 (fun z => absurd z (Int32.not_lt.mpr c107))⟩, hP, hD, hS, lv_sub hl [0, 1, 2, 3] rfl⟩
            · skip
              refine lv_iconst (v := nI 1) hx hb dX7_layDivision_110 (by decide) ?_
              refine lv_goto (tgt := 115) hx hb dX7_layDivision_111 (by decide) ?_
              exact j_16 _ _ _ _ ⟨_, rfl, by first | exact Or.inl ⟨rfl, hL2, Or.inl c96⟩ | exact Or.inl ⟨rfl, hL2, Or.inr (Int32.not_le.mp c107)⟩, hP, hD, hS, lv_sub hl [0, 1, 2, 3] rfl⟩
      refine lv_iload_n hx hb dX7_layDivision_59 rfl (lv_at hl 0 rfl) ?_
      refine lv_iload_n hx hb dX7_layDivision_60 rfl (lv_at hl 1 rfl) ?_
      refine lv_isub hx hb dX7_layDivision_61 ?_
      refine wt_i (pk_sub (by omega)) ?_
      refine lv_aload_n hx hb dX7_layDivision_62 rfl (lv_at hl 2 rfl) ?_
      refine va_get (D := D) (ci := 7) (v := .int (nI ll)) (C := RX7) (T := TX7) (N := 20) hx hb hts hinX7 hown hK hP 4 rfl rfl 5 (by decide) (hts (.fieldLink RX7 21 "SeriesWatcherModel" "least" "I") (by decide +kernel)) (fun _ h9 => h9) rfl dX7_layDivision_63 ?_
      refine lv_icmp_ge (tgt := 81) hx hb dX7_layDivision_66 (by decide) (fun c66 => ?_) (fun c66 => ?_)
      · skip
        have c66 := kle (a := ll) (b := (e - u)) c66 (by omega) (by omega)
        refine lv_iconst (v := nI 1) hx hb dX7_layDivision_81 (by decide) ?_
        refine lv_goto (tgt := 86) hx hb dX7_layDivision_82 (by decide) ?_
        exact j_15 _ _ _ _ ⟨_, rfl, Or.inl ⟨rfl, by omega⟩, hP, hD, hS, lv_sub hl [0, 1, 2] rfl⟩
      · skip
        have c66 := knle (a := ll) (b := (e - u)) c66 (by omega) (by omega)
        refine lv_iload_n hx hb dX7_layDivision_69 rfl (lv_at hl 1 rfl) ?_
        refine lv_if_ne (tgt := 85) hx hb dX7_layDivision_70 (by decide) (fun c70 => ?_) (fun c70 => ?_)
        · skip
          have c70 := kneq (a := u) (b := 0) c70 (by omega) (by omega)
          refine lv_iconst (v := nI 0) hx hb dX7_layDivision_85 (by decide) ?_
          exact j_15 _ _ _ _ ⟨_, rfl, Or.inr ⟨rfl, by omega⟩, hP, hD, hS, lv_sub hl [0, 1, 2] rfl⟩
        · skip
          have c70 := keq (a := u) (b := 0) c70 (by omega) (by omega)
          refine lv_iload_n hx hb dX7_layDivision_73 rfl (lv_at hl 0 rfl) ?_
          refine lv_aload_n hx hb dX7_layDivision_74 rfl (lv_at hl 2 rfl) ?_
          refine va_get (D := D) (ci := 7) (v := .int (nI n)) (C := RX7) (T := TX7) (N := 20) hx hb hts hinX7 hown hK hP 4 rfl rfl 1 (by decide) (hts (.fieldLink RX7 60 "SeriesWatcherModel" "many" "I") (by decide +kernel)) (fun _ h9 => h9) rfl dX7_layDivision_75 ?_
          refine lv_icmp_ne (tgt := 85) hx hb dX7_layDivision_78 (by decide) (fun c78 => ?_) (fun c78 => ?_)
          · skip
            have c78 := kneq (a := e) (b := n) c78 (by omega) (by omega)
            refine lv_iconst (v := nI 0) hx hb dX7_layDivision_85 (by decide) ?_
            exact j_15 _ _ _ _ ⟨_, rfl, Or.inr ⟨rfl, by omega⟩, hP, hD, hS, lv_sub hl [0, 1, 2] rfl⟩
          · skip
            have c78 := keq (a := e) (b := n) c78 (by omega) (by omega)
            refine lv_iconst (v := nI 1) hx hb dX7_layDivision_81 (by decide) ?_
            refine lv_goto (tgt := 86) hx hb dX7_layDivision_82 (by decide) ?_
            exact j_15 _ _ _ _ ⟨_, rfl, Or.inl ⟨rfl, by omega⟩, hP, hD, hS, lv_sub hl [0, 1, 2] rfl⟩

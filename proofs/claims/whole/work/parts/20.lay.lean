set_option maxHeartbeats 4000000 in
set_option maxRecDepth 100000 in
theorem c_X7_laySeasons (l : Launch) (D : va_G) (cI cZ cJ : ClassId) (sz : Nat) (o7 : Nat) (th : Int32) (n mv mh len ll : Nat) (pen bf bl : Int32) (cn ms : Nat) (mid : Int32) (me mp mc ml mb md mr : Nat) (spr : Int32) (v hf fs se pl : Nat → Int32) (hn : n ≤ 60) (hbit : ∀ k, kbit (hf k)) (hl1 : 1 ≤ len) (hl2 : len ≤ 12) : Met l yX7_laySeasons wsX7_laySeasons ({ frames := 2, cells := 0, slots := 0, locals := 60 }) (va_Pc [.ref o7] (kPre D (tyA cI cZ cJ) sz [(o7, .inr (7, [.int th, .int (nI n), .ref mv, .ref mh, .int (nI len), .int (nI ll), .int pen, .int bf, .int bl, .int (nI cn), .ref ms, .int mid, .ref me, .ref mp, .ref mc, .ref ml, .ref mb, .ref md, .ref mr, .int spr])), (mv, .inl (cI, 60, .inl v)), (mh, .inl (cZ, 60, .inl hf)), (ms, .inl (cI, 60, .inl fs)), (me, .inl (cI, 12, .inl se)), (mp, .inl (cI, 60, .inl pl))])) (va_Qv (fun (u : Nat × (Nat → Int32) × (Nat → Int32) × (Nat → Int32)) => match u with | (cn2, f92, se2, pl2) => (∀ j, j < len → se2 j = kSeas v hf n len j) ∧ ∀ k, k < n → pl2 k = kAdj v hf n len k) (kPost D (tyA cI cZ cJ) (va_A [(o7, .inr (7, [.int th, .int (nI n), .ref mv, .ref mh, .int (nI len), .int (nI ll), .int pen, .int bf, .int bl, .int (nI cn), .ref ms, .int mid, .ref me, .ref mp, .ref mc, .ref ml, .ref mb, .ref md, .ref mr, .int spr])), (mv, .inl (cI, 60, .inl v)), (mh, .inl (cZ, 60, .inl hf)), (ms, .inl (cI, 60, .inl fs)), (me, .inl (cI, 12, .inl se)), (mp, .inl (cI, 60, .inl pl))] sz) (fun (u : Nat × (Nat → Int32) × (Nat → Int32) × (Nat → Int32)) => match u with | (cn2, f92, se2, pl2) => [(o7, .inr (7, [.int th, .int (nI n), .ref mv, .ref mh, .int (nI len), .int (nI ll), .int pen, .int bf, .int bl, .int (nI cn2), .ref ms, .int (kBase v hf n), .ref me, .ref mp, .ref mc, .ref ml, .ref mb, .ref md, .ref mr, .int spr])), (mv, .inl (cI, 60, .inl v)), (mh, .inl (cZ, 60, .inl hf)), (ms, .inl (cI, 60, .inl f92)), (me, .inl (cI, 12, .inl se2)), (mp, .inl (cI, 60, .inl pl2))])) (va_A [(o7, .inr (7, [.int th, .int (nI n), .ref mv, .ref mh, .int (nI len), .int (nI ll), .int pen, .int bf, .int bl, .int (nI cn), .ref ms, .int mid, .ref me, .ref mp, .ref mc, .ref ml, .ref mb, .ref md, .ref mr, .int spr])), (mv, .inl (cI, 60, .inl v)), (mh, .inl (cZ, 60, .inl hf)), (ms, .inl (cI, 60, .inl fs)), (me, .inl (cI, 12, .inl se)), (mp, .inl (cI, 60, .inl pl))] sz)) 0 0 (va_A [(o7, .inr (7, [.int th, .int (nI n), .ref mv, .ref mh, .int (nI len), .int (nI ll), .int pen, .int bf, .int bl, .int (nI cn), .ref ms, .int mid, .ref me, .ref mp, .ref mc, .ref ml, .ref mb, .ref md, .ref mr, .int spr])), (mv, .inl (cI, 60, .inl v)), (mh, .inl (cZ, 60, .inl hf)), (ms, .inl (cI, 60, .inl fs)), (me, .inl (cI, 12, .inl se)), (mp, .inl (cI, 60, .inl pl))] sz) := by
  refine kOfW (cc := cX7_laySeasons) (maxL := 3) (ret := none) (fun A => va_Qv (fun (u : Nat × (Nat → Int32) × (Nat → Int32) × (Nat → Int32)) => match u with | (cn2, f92, se2, pl2) => (∀ j, j < len → se2 j = kSeas v hf n len j) ∧ ∀ k, k < n → pl2 k = kAdj v hf n len k) (kPost D (tyA cI cZ cJ) (A) (fun (u : Nat × (Nat → Int32) × (Nat → Int32) × (Nat → Int32)) => match u with | (cn2, f92, se2, pl2) => [(o7, .inr (7, [.int th, .int (nI n), .ref mv, .ref mh, .int (nI len), .int (nI ll), .int pen, .int bf, .int bl, .int (nI cn2), .ref ms, .int (kBase v hf n), .ref me, .ref mp, .ref mc, .ref ml, .ref mb, .ref md, .ref mr, .int spr])), (mv, .inl (cI, 60, .inl v)), (mh, .inl (cZ, 60, .inl hf)), (ms, .inl (cI, 60, .inl f92)), (me, .inl (cI, 12, .inl se2)), (mp, .inl (cI, 60, .inl pl2))])) (A)) (by decide) rfl (Nat.le_of_ble_eq_true rfl) ?_
  intro p_ e_ s m_ below_ meth_ c_ A ls hx hb hr hml hts hown hlocks hin hA hP hK hD hsz hl
  have hS : va_S A s.heap s.heap [] := va_S.rf
  have hl : lv_has ls 3 [(0, .ref o7)] := hl
  have hinX7 : ∀ w ∈ wsX70, w ∈ wsX7_laySeasons := fun w h => List.mem_cons_of_mem _ (List.mem_append_right _ h)
  refine lv_aload_n hx hb dX7_laySeasons_0 rfl (lv_at hl 0 rfl) ?_
  refine lv_iconst (v := nI 0) hx hb dX7_laySeasons_1 (by decide) ?_
  refine va_put (D := D) (ci := 7) (v := .int (nI 0)) (ty := .int) (C := RX7) (T := TX7) (N := 20) hx hb hts hinX7 tyX7 tyX7_ok nmX7 hown hK hP hD hS 0 rfl rfl 9 (by decide) (hts (.fieldLink RX7 67 "SeriesWatcherModel" "counted" "I") (by decide +kernel)) (fun _ h9 => h9) rfl (by decide +kernel) rfl rfl (Nat.le_of_ble_eq_true rfl) dX7_laySeasons_2 (fun H locs hP hD hS => ?_)
  have hP : va_P D vwCl [(o7, .inr (7, [.int th, .int (nI n), .ref mv, .ref mh, .int (nI len), .int (nI ll), .int pen, .int bf, .int bl, .int (nI 0), .ref ms, .int mid, .ref me, .ref mp, .ref mc, .ref ml, .ref mb, .ref md, .ref mr, .int spr])), (mv, .inl (cI, 60, .inl v)), (mh, .inl (cZ, 60, .inl hf)), (ms, .inl (cI, 60, .inl fs)), (me, .inl (cI, 12, .inl se)), (mp, .inl (cI, 60, .inl pl))] H := hP
  have hD : va_D A [(o7, .inr (7, [.int th, .int (nI n), .ref mv, .ref mh, .int (nI len), .int (nI ll), .int pen, .int bf, .int bl, .int (nI 0), .ref ms, .int mid, .ref me, .ref mp, .ref mc, .ref ml, .ref mb, .ref md, .ref mr, .int spr])), (mv, .inl (cI, 60, .inl v)), (mh, .inl (cZ, 60, .inl hf)), (ms, .inl (cI, 60, .inl fs)), (me, .inl (cI, 12, .inl se)), (mp, .inl (cI, 60, .inl pl))] := hD
  refine lv_iconst (v := nI 0) hx hb dX7_laySeasons_5 (by decide) ?_
  refine lv_istore_n (lv' := [(1, .int (nI 0)), (0, .ref o7)]) hx hb dX7_laySeasons_6 rfl hl (by decide) rfl (fun ls hl => ?_)
  refine wl_loop (fun (d9 : Nat) (H : Heap) (locs : List Loc) (ls : Array Slot) => ∃ (k : Nat) (c1 : Nat) (f : Nat → Int32), d9 = n - k ∧ (k ≤ n) ∧ (kRowR (kseg v hf 0 k) c1 f) ∧ va_P D vwCl [(o7, .inr (7, [.int th, .int (nI n), .ref mv, .ref mh, .int (nI len), .int (nI ll), .int pen, .int bf, .int bl, .int (nI c1), .ref ms, .int mid, .ref me, .ref mp, .ref mc, .ref ml, .ref mb, .ref md, .ref mr, .int spr])), (mv, .inl (cI, 60, .inl v)), (mh, .inl (cZ, 60, .inl hf)), (ms, .inl (cI, 60, .inl f)), (me, .inl (cI, 12, .inl se)), (mp, .inl (cI, 60, .inl pl))] H ∧ va_D A [(o7, .inr (7, [.int th, .int (nI n), .ref mv, .ref mh, .int (nI len), .int (nI ll), .int pen, .int bf, .int bl, .int (nI c1), .ref ms, .int mid, .ref me, .ref mp, .ref mc, .ref ml, .ref mb, .ref md, .ref mr, .int spr])), (mv, .inl (cI, 60, .inl v)), (mh, .inl (cZ, 60, .inl hf)), (ms, .inl (cI, 60, .inl f)), (me, .inl (cI, 12, .inl se)), (mp, .inl (cI, 60, .inl pl))] ∧ va_S A s.heap H locs ∧ lv_has ls 3 [(1, .int (nI k)), (0, .ref o7)]) ?_ _ ⟨0, 0, _, rfl, Nat.zero_le _, kRowR_0 _, hP, hD, hS, lv_sub hl [0, 1] rfl⟩
  rintro d_2 H locs ls ⟨k, c1, f, hd_3, hk, hR, hP, hD, hS, hl⟩ ih_1
  refine lv_iload_n hx hb dX7_laySeasons_7 rfl (lv_at hl 0 rfl) ?_
  refine lv_aload_n hx hb dX7_laySeasons_8 rfl (lv_at hl 1 rfl) ?_
  refine va_get (D := D) (ci := 7) (v := .int (nI n)) (C := RX7) (T := TX7) (N := 20) hx hb hts hinX7 hown hK hP 0 rfl rfl 1 (by decide) (hts (.fieldLink RX7 60 "SeriesWatcherModel" "many" "I") (by decide +kernel)) (fun _ h9 => h9) rfl dX7_laySeasons_9 ?_
  refine lv_icmp_ge (tgt := 40) hx hb dX7_laySeasons_12 (by decide) (fun c12 => ?_) (fun c12 => ?_)
  · skip
    have c12 := kle (a := n) (b := k) c12 (by omega) (by omega)
    have ek : k = n := by omega
    rw [ek] at hR
    refine lv_aload_n hx hb dX7_laySeasons_40 rfl (lv_at hl 1 rfl) ?_
    refine lv_aload_n hx hb dX7_laySeasons_41 rfl (lv_at hl 1 rfl) ?_
    refine kci (wr := [(mv, .inl (cI, 60, .inl v)), (mh, .inl (cZ, 60, .inl hf)), (me, .inl (cI, 12, .inl se)), (mp, .inl (cI, 60, .inl pl))]) (pre := [(o7, .inr (7, [.int th, .int (nI n), .ref mv, .ref mh, .int (nI len), .int (nI ll), .int pen, .int bf, .int bl, .int (nI c1), .ref ms, .int mid, .ref me, .ref mp, .ref mc, .ref ml, .ref mb, .ref md, .ref mr, .int spr])), (ms, .inl (cI, 60, .inl f))]) (va_runV (As := []) (rest := [.ref o7]) ⟨hx, hb, hml, hown, hts⟩ (c_X7_median l D cI cZ cJ H.size o7 th n mv mh len ll pen bf bl c1 ms mid me mp mc ml mb md mr spr f (by rw [hR.1]; exact Nat.le_trans (kseg_len _ hf 0 _) (by omega))) (cwV 0 hts gX7_laySeasons_X7_median rfl rfl rfl (by decide +kernel) ⟨Nat.le_of_ble_eq_true rfl, Nat.le_of_ble_eq_true rfl⟩) (kpreV hK hP hD (ci := 7) (q0 := 0) rfl rfl [0, 3] (by decide +kernel) rfl) rfl rfl hl.1 rfl (lv_room (Nat.le_of_ble_eq_true rfl)) dX7_laySeasons_42 ⟨Nat.zero_le _, Nat.zero_le _⟩) hP hD hS hA [0, 3] [1, 2, 4, 5] rfl rfl (by decide +kernel) (by decide +kernel) (fun r_4 _ H locs hw hP hD hS => ?_)
    have hP : va_P D vwCl [(mv, .inl (cI, 60, .inl v)), (mh, .inl (cZ, 60, .inl hf)), (me, .inl (cI, 12, .inl se)), (mp, .inl (cI, 60, .inl pl)), (o7, .inr (7, [.int th, .int (nI n), .ref mv, .ref mh, .int (nI len), .int (nI ll), .int pen, .int bf, .int bl, .int (nI c1), .ref ms, .int mid, .ref me, .ref mp, .ref mc, .ref ml, .ref mb, .ref md, .ref mr, .int spr])), (ms, .inl (cI, 60, .inl f))] H := hP
    have hD : va_D A [(mv, .inl (cI, 60, .inl v)), (mh, .inl (cZ, 60, .inl hf)), (me, .inl (cI, 12, .inl se)), (mp, .inl (cI, 60, .inl pl)), (o7, .inr (7, [.int th, .int (nI n), .ref mv, .ref mh, .int (nI len), .int (nI ll), .int pen, .int bf, .int bl, .int (nI c1), .ref ms, .int mid, .ref me, .ref mp, .ref mc, .ref ml, .ref mb, .ref md, .ref mr, .int spr])), (ms, .inl (cI, 60, .inl f))] := hD
    have hr9 : r_4 = kmed f c1 := hw
    refine wt_i hr9 ?_
    refine wt_i (kRowR_med hR) ?_
    refine va_put (D := D) (ci := 7) (v := .int (kBase v hf n)) (ty := .int) (C := RX7) (T := TX7) (N := 20) hx hb hts hinX7 tyX7 tyX7_ok nmX7 hown hK hP hD hS 4 rfl rfl 11 (by decide) (hts (.fieldLink RX7 78 "SeriesWatcherModel" "middle" "I") (by decide +kernel)) (fun _ h9 => h9) rfl (by decide +kernel) rfl rfl (Nat.le_of_ble_eq_true rfl) dX7_laySeasons_45 (fun H locs hP hD hS => ?_)
    have hP : va_P D vwCl [(mv, .inl (cI, 60, .inl v)), (mh, .inl (cZ, 60, .inl hf)), (me, .inl (cI, 12, .inl se)), (mp, .inl (cI, 60, .inl pl)), (o7, .inr (7, [.int th, .int (nI n), .ref mv, .ref mh, .int (nI len), .int (nI ll), .int pen, .int bf, .int bl, .int (nI c1), .ref ms, .int (kBase v hf n), .ref me, .ref mp, .ref mc, .ref ml, .ref mb, .ref md, .ref mr, .int spr])), (ms, .inl (cI, 60, .inl f))] H := hP
    have hD : va_D A [(mv, .inl (cI, 60, .inl v)), (mh, .inl (cZ, 60, .inl hf)), (me, .inl (cI, 12, .inl se)), (mp, .inl (cI, 60, .inl pl)), (o7, .inr (7, [.int th, .int (nI n), .ref mv, .ref mh, .int (nI len), .int (nI ll), .int pen, .int bf, .int bl, .int (nI c1), .ref ms, .int (kBase v hf n), .ref me, .ref mp, .ref mc, .ref ml, .ref mb, .ref md, .ref mr, .int spr])), (ms, .inl (cI, 60, .inl f))] := hD
    refine lv_iconst (v := nI 0) hx hb dX7_laySeasons_48 (by decide) ?_
    refine lv_istore_n (lv' := [(1, .int (nI 0)), (0, .ref o7)]) hx hb dX7_laySeasons_49 rfl hl (by decide) rfl (fun ls hl => ?_)
    refine wl_loop (fun (d9 : Nat) (H : Heap) (locs : List Loc) (ls : Array Slot) => ∃ (p : Nat) (c1 : Nat) (f : Nat → Int32) (g : Nat → Int32), d9 = len - p ∧ (p ≤ len) ∧ (∀ j, j < p → g j = kSeas v hf n len j) ∧ va_P D vwCl [(mv, .inl (cI, 60, .inl v)), (mh, .inl (cZ, 60, .inl hf)), (me, .inl (cI, 12, .inl g)), (mp, .inl (cI, 60, .inl pl)), (o7, .inr (7, [.int th, .int (nI n), .ref mv, .ref mh, .int (nI len), .int (nI ll), .int pen, .int bf, .int bl, .int (nI c1), .ref ms, .int (kBase v hf n), .ref me, .ref mp, .ref mc, .ref ml, .ref mb, .ref md, .ref mr, .int spr])), (ms, .inl (cI, 60, .inl f))] H ∧ va_D A [(mv, .inl (cI, 60, .inl v)), (mh, .inl (cZ, 60, .inl hf)), (me, .inl (cI, 12, .inl g)), (mp, .inl (cI, 60, .inl pl)), (o7, .inr (7, [.int th, .int (nI n), .ref mv, .ref mh, .int (nI len), .int (nI ll), .int pen, .int bf, .int bl, .int (nI c1), .ref ms, .int (kBase v hf n), .ref me, .ref mp, .ref mc, .ref ml, .ref mb, .ref md, .ref mr, .int spr])), (ms, .inl (cI, 60, .inl f))] ∧ va_S A s.heap H locs ∧ lv_has ls 3 [(1, .int (nI p)), (0, .ref o7)]) ?_ _ ⟨0, _, _, _, rfl, Nat.zero_le _, fun j hj => absurd hj (Nat.not_lt_zero j), hP, hD, hS, lv_sub hl [0, 1] rfl⟩
    rintro d_7 H locs ls ⟨p, c1, f, g, hd_8, hp, h1, hP, hD, hS, hl⟩ ih_6
    refine lv_iload_n hx hb dX7_laySeasons_50 rfl (lv_at hl 0 rfl) ?_
    refine lv_aload_n hx hb dX7_laySeasons_51 rfl (lv_at hl 1 rfl) ?_
    refine va_get (D := D) (ci := 7) (v := .int (nI len)) (C := RX7) (T := TX7) (N := 20) hx hb hts hinX7 hown hK hP 4 rfl rfl 4 (by decide) (hts (.fieldLink RX7 17 "SeriesWatcherModel" "length" "I") (by decide +kernel)) (fun _ h9 => h9) rfl dX7_laySeasons_52 ?_
    refine lv_icmp_ge (tgt := 123) hx hb dX7_laySeasons_55 (by decide) (fun c55 => ?_) (fun c55 => ?_)
    · skip
      have c55 := kle (a := len) (b := p) c55 (by omega) (by omega)
      have ep : p = len := by omega
      rw [ep] at h1
      refine lv_iconst (v := nI 0) hx hb dX7_laySeasons_123 (by decide) ?_
      refine lv_istore_n (lv' := [(1, .int (nI 0)), (0, .ref o7)]) hx hb dX7_laySeasons_124 rfl hl (by decide) rfl (fun ls hl => ?_)
      refine wl_loop (fun (d9 : Nat) (H : Heap) (locs : List Loc) (ls : Array Slot) => ∃ (k : Nat) (g2 : Nat → Int32), d9 = n - k ∧ (k ≤ n) ∧ (∀ j, j < k → g2 j = kAdj v hf n len j) ∧ va_P D vwCl [(mv, .inl (cI, 60, .inl v)), (mh, .inl (cZ, 60, .inl hf)), (me, .inl (cI, 12, .inl g)), (mp, .inl (cI, 60, .inl g2)), (o7, .inr (7, [.int th, .int (nI n), .ref mv, .ref mh, .int (nI len), .int (nI ll), .int pen, .int bf, .int bl, .int (nI c1), .ref ms, .int (kBase v hf n), .ref me, .ref mp, .ref mc, .ref ml, .ref mb, .ref md, .ref mr, .int spr])), (ms, .inl (cI, 60, .inl f))] H ∧ va_D A [(mv, .inl (cI, 60, .inl v)), (mh, .inl (cZ, 60, .inl hf)), (me, .inl (cI, 12, .inl g)), (mp, .inl (cI, 60, .inl g2)), (o7, .inr (7, [.int th, .int (nI n), .ref mv, .ref mh, .int (nI len), .int (nI ll), .int pen, .int bf, .int bl, .int (nI c1), .ref ms, .int (kBase v hf n), .ref me, .ref mp, .ref mc, .ref ml, .ref mb, .ref md, .ref mr, .int spr])), (ms, .inl (cI, 60, .inl f))] ∧ va_S A s.heap H locs ∧ lv_has ls 3 [(1, .int (nI k)), (0, .ref o7)]) ?_ _ ⟨0, _, rfl, Nat.zero_le _, fun j hj => absurd hj (Nat.not_lt_zero j), hP, hD, hS, lv_sub hl [0, 1] rfl⟩
      rintro d_10 H locs ls ⟨k, g2, hd_11, hk, h2, hP, hD, hS, hl⟩ ih_9
      refine lv_iload_n hx hb dX7_laySeasons_125 rfl (lv_at hl 0 rfl) ?_
      refine lv_aload_n hx hb dX7_laySeasons_126 rfl (lv_at hl 1 rfl) ?_
      refine va_get (D := D) (ci := 7) (v := .int (nI n)) (C := RX7) (T := TX7) (N := 20) hx hb hts hinX7 hown hK hP 4 rfl rfl 1 (by decide) (hts (.fieldLink RX7 60 "SeriesWatcherModel" "many" "I") (by decide +kernel)) (fun _ h9 => h9) rfl dX7_laySeasons_127 ?_
      refine lv_icmp_ge (tgt := 163) hx hb dX7_laySeasons_130 (by decide) (fun c130 => ?_) (fun c130 => ?_)
      · skip
        have c130 := kle (a := n) (b := k) c130 (by omega) (by omega)
        have ek : k = n := by omega
        rw [ek] at h2
        exact krv hx hb hr hlocks hP hK hD hS (_, _, _, _) (⟨h1, h2⟩) [4, 0, 1, 5, 2, 3] (by decide +kernel) rfl dX7_laySeasons_163
      · skip
        have c130 := knle (a := n) (b := k) c130 (by omega) (by omega)
        refine lv_aload_n hx hb dX7_laySeasons_133 rfl (lv_at hl 1 rfl) ?_
        refine va_get (D := D) (ci := 7) (v := .ref mp) (C := RX7) (T := TX7) (N := 20) hx hb hts hinX7 hown hK hP 4 rfl rfl 13 (by decide) (hts (.fieldLink RX7 39 "SeriesWatcherModel" "plain" "[I") (by decide +kernel)) (fun _ h9 => h9) rfl dX7_laySeasons_134 ?_
        refine lv_iload_n hx hb dX7_laySeasons_137 rfl (lv_at hl 0 rfl) ?_
        refine lv_aload_n hx hb dX7_laySeasons_138 rfl (lv_at hl 1 rfl) ?_
        refine va_get (D := D) (ci := 7) (v := .ref mv) (C := RX7) (T := TX7) (N := 20) hx hb hts hinX7 hown hK hP 4 rfl rfl 2 (by decide) (hts (.fieldLink RX7 7 "SeriesWatcherModel" "value" "[I") (by decide +kernel)) (fun _ h9 => h9) rfl dX7_laySeasons_139 ?_
        refine lv_iload_n hx hb dX7_laySeasons_142 rfl (lv_at hl 0 rfl) ?_
        refine va_iald (D := D) hx hb hK hP 0 0 rfl rfl (vp_in_nI (by omega) (by decide)) dX7_laySeasons_143 ?_
        refine wt_i (by rw [nI_clamp (n := k) (by omega)]) ?_
        refine lv_aload_n hx hb dX7_laySeasons_144 rfl (lv_at hl 1 rfl) ?_
        refine va_get (D := D) (ci := 7) (v := .ref me) (C := RX7) (T := TX7) (N := 20) hx hb hts hinX7 hown hK hP 4 rfl rfl 12 (by decide) (hts (.fieldLink RX7 36 "SeriesWatcherModel" "seasons" "[I") (by decide +kernel)) (fun _ h9 => h9) rfl dX7_laySeasons_145 ?_
        refine lv_iload_n hx hb dX7_laySeasons_148 rfl (lv_at hl 0 rfl) ?_
        refine lv_aload_n hx hb dX7_laySeasons_149 rfl (lv_at hl 1 rfl) ?_
        refine va_get (D := D) (ci := 7) (v := .int (nI len)) (C := RX7) (T := TX7) (N := 20) hx hb hts hinX7 hown hK hP 4 rfl rfl 4 (by decide) (hts (.fieldLink RX7 17 "SeriesWatcherModel" "length" "I") (by decide +kernel)) (fun _ h9 => h9) rfl dX7_laySeasons_150 ?_
        have hmod : k % len < len := Nat.mod_lt _ (by omega)
        refine lv_irem hx hb dX7_laySeasons_153 (nI_ne0 (by omega) (by omega)) ?_
        refine wt_i (pk_rem (by omega) (by omega) (by omega)) ?_
        refine va_iald (D := D) hx hb hK hP 2 0 rfl rfl (vp_in_nI (by omega) (by decide)) dX7_laySeasons_154 ?_
        refine wt_i (by rw [nI_clamp (n := (k % len)) (by omega)]) ?_
        refine lv_isub hx hb dX7_laySeasons_155 ?_
        refine va_iast (D := D) hx hb hK hP hD hS 3 0 rfl rfl (vp_in_nI (by omega) (by decide)) dX7_laySeasons_156 (fun H locs hP hD hS => ?_)
        rw [nI_clamp (n := k) (by omega)] at hP hD
        have hP : va_P D vwCl [(mv, .inl (cI, 60, .inl v)), (mh, .inl (cZ, 60, .inl hf)), (me, .inl (cI, 12, .inl g)), (mp, .inl (cI, 60, .inl (upd g2 k ((v k) - (g (k % len)))))), (o7, .inr (7, [.int th, .int (nI n), .ref mv, .ref mh, .int (nI len), .int (nI ll), .int pen, .int bf, .int bl, .int (nI c1), .ref ms, .int (kBase v hf n), .ref me, .ref mp, .ref mc, .ref ml, .ref mb, .ref md, .ref mr, .int spr])), (ms, .inl (cI, 60, .inl f))] H := hP
        have hD : va_D A [(mv, .inl (cI, 60, .inl v)), (mh, .inl (cZ, 60, .inl hf)), (me, .inl (cI, 12, .inl g)), (mp, .inl (cI, 60, .inl (upd g2 k ((v k) - (g (k % len)))))), (o7, .inr (7, [.int th, .int (nI n), .ref mv, .ref mh, .int (nI len), .int (nI ll), .int pen, .int bf, .int bl, .int (nI c1), .ref ms, .int (kBase v hf n), .ref me, .ref mp, .ref mc, .ref ml, .ref mb, .ref md, .ref mr, .int spr])), (ms, .inl (cI, 60, .inl f))] := hD
        refine lv_iinc (v := nI (k + 1)) (lv' := [(1, .int (nI (k + 1))), (0, .ref o7)]) hx hb dX7_laySeasons_157 hl (k := 0) rfl (by exact nI_add _ 1) (by decide) rfl (fun ls hl => ?_)
        refine lv_goto (tgt := 125) hx hb dX7_laySeasons_160 (by decide) ?_
        exact ih_9 _ (by omega) _ _ _ ⟨(k + 1), _, rfl, by omega, fun j hj => by
            by_cases e9 : j = k
            · rw [e9, pk_us, h1 (k % len) hmod]; rfl
            · rw [pk_un e9]; exact h2 j (by omega), hP, hD, hS, lv_sub hl [0, 1] rfl⟩
    · skip
      have c55 := knle (a := len) (b := p) c55 (by omega) (by omega)
      refine lv_aload_n hx hb dX7_laySeasons_58 rfl (lv_at hl 1 rfl) ?_
      refine lv_iconst (v := nI 0) hx hb dX7_laySeasons_59 (by decide) ?_
      refine va_put (D := D) (ci := 7) (v := .int (nI 0)) (ty := .int) (C := RX7) (T := TX7) (N := 20) hx hb hts hinX7 tyX7 tyX7_ok nmX7 hown hK hP hD hS 4 rfl rfl 9 (by decide) (hts (.fieldLink RX7 67 "SeriesWatcherModel" "counted" "I") (by decide +kernel)) (fun _ h9 => h9) rfl (by decide +kernel) rfl rfl (Nat.le_of_ble_eq_true rfl) dX7_laySeasons_60 (fun H locs hP hD hS => ?_)
      have hP : va_P D vwCl [(mv, .inl (cI, 60, .inl v)), (mh, .inl (cZ, 60, .inl hf)), (me, .inl (cI, 12, .inl g)), (mp, .inl (cI, 60, .inl pl)), (o7, .inr (7, [.int th, .int (nI n), .ref mv, .ref mh, .int (nI len), .int (nI ll), .int pen, .int bf, .int bl, .int (nI 0), .ref ms, .int (kBase v hf n), .ref me, .ref mp, .ref mc, .ref ml, .ref mb, .ref md, .ref mr, .int spr])), (ms, .inl (cI, 60, .inl f))] H := hP
      have hD : va_D A [(mv, .inl (cI, 60, .inl v)), (mh, .inl (cZ, 60, .inl hf)), (me, .inl (cI, 12, .inl g)), (mp, .inl (cI, 60, .inl pl)), (o7, .inr (7, [.int th, .int (nI n), .ref mv, .ref mh, .int (nI len), .int (nI ll), .int pen, .int bf, .int bl, .int (nI 0), .ref ms, .int (kBase v hf n), .ref me, .ref mp, .ref mc, .ref ml, .ref mb, .ref md, .ref mr, .int spr])), (ms, .inl (cI, 60, .inl f))] := hD
      refine lv_iload_n hx hb dX7_laySeasons_63 rfl (lv_at hl 0 rfl) ?_
      refine lv_istore_n (lv' := [(2, .int (nI p)), (1, .int (nI p)), (0, .ref o7)]) hx hb dX7_laySeasons_64 rfl hl (by decide) rfl (fun ls hl => ?_)
      refine wl_loop (fun (d9 : Nat) (H : Heap) (locs : List Loc) (ls : Array Slot) => ∃ (k : Nat) (c2 : Nat) (f2 : Nat → Int32), d9 = n + len - k ∧ (k ≤ 72) ∧ (k % len = p) ∧ (∀ i, n ≤ i → i < k → i % len ≠ p) ∧ (kRowR (kph v hf len (kBase v hf n) p k) c2 f2) ∧ va_P D vwCl [(mv, .inl (cI, 60, .inl v)), (mh, .inl (cZ, 60, .inl hf)), (me, .inl (cI, 12, .inl g)), (mp, .inl (cI, 60, .inl pl)), (o7, .inr (7, [.int th, .int (nI n), .ref mv, .ref mh, .int (nI len), .int (nI ll), .int pen, .int bf, .int bl, .int (nI c2), .ref ms, .int (kBase v hf n), .ref me, .ref mp, .ref mc, .ref ml, .ref mb, .ref md, .ref mr, .int spr])), (ms, .inl (cI, 60, .inl f2))] H ∧ va_D A [(mv, .inl (cI, 60, .inl v)), (mh, .inl (cZ, 60, .inl hf)), (me, .inl (cI, 12, .inl g)), (mp, .inl (cI, 60, .inl pl)), (o7, .inr (7, [.int th, .int (nI n), .ref mv, .ref mh, .int (nI len), .int (nI ll), .int pen, .int bf, .int bl, .int (nI c2), .ref ms, .int (kBase v hf n), .ref me, .ref mp, .ref mc, .ref ml, .ref mb, .ref md, .ref mr, .int spr])), (ms, .inl (cI, 60, .inl f2))] ∧ va_S A s.heap H locs ∧ lv_has ls 3 [(2, .int (nI k)), (1, .int (nI p)), (0, .ref o7)]) ?_ _ ⟨p, 0, _, rfl, by omega, Nat.mod_eq_of_lt (by omega), fun i a b => kmod_small b (by omega), by rw [kph_gap (a := 0) p (Nat.zero_le p) (fun i _ h => kmod_small h (by omega))]; exact kRowR_0 _, hP, hD, hS, lv_sub hl [0, 1, 2] rfl⟩
      rintro d_13 H locs ls ⟨k, c2, f2, hd_14, hk, hkp, hg, hR, hP, hD, hS, hl⟩ ih_12
      refine lv_iload_n hx hb dX7_laySeasons_65 rfl (lv_at hl 0 rfl) ?_
      refine lv_aload_n hx hb dX7_laySeasons_66 rfl (lv_at hl 2 rfl) ?_
      refine va_get (D := D) (ci := 7) (v := .int (nI n)) (C := RX7) (T := TX7) (N := 20) hx hb hts hinX7 hown hK hP 4 rfl rfl 1 (by decide) (hts (.fieldLink RX7 60 "SeriesWatcherModel" "many" "I") (by decide +kernel)) (fun _ h9 => h9) rfl dX7_laySeasons_67 ?_
      refine lv_icmp_ge (tgt := 107) hx hb dX7_laySeasons_70 (by decide) (fun c70 => ?_) (fun c70 => ?_)
      · skip
        have c70 := kle (a := n) (b := k) c70 (by omega) (by omega)
        rw [kph_gap (a := n) k (by omega) hg] at hR
        refine lv_aload_n hx hb dX7_laySeasons_107 rfl (lv_at hl 2 rfl) ?_
        refine va_get (D := D) (ci := 7) (v := .ref me) (C := RX7) (T := TX7) (N := 20) hx hb hts hinX7 hown hK hP 4 rfl rfl 12 (by decide) (hts (.fieldLink RX7 36 "SeriesWatcherModel" "seasons" "[I") (by decide +kernel)) (fun _ h9 => h9) rfl dX7_laySeasons_108 ?_
        refine lv_iload_n hx hb dX7_laySeasons_111 rfl (lv_at hl 1 rfl) ?_
        refine lv_aload_n hx hb dX7_laySeasons_112 rfl (lv_at hl 2 rfl) ?_
        refine kci (wr := [(mv, .inl (cI, 60, .inl v)), (mh, .inl (cZ, 60, .inl hf)), (me, .inl (cI, 12, .inl g)), (mp, .inl (cI, 60, .inl pl))]) (pre := [(o7, .inr (7, [.int th, .int (nI n), .ref mv, .ref mh, .int (nI len), .int (nI ll), .int pen, .int bf, .int bl, .int (nI c2), .ref ms, .int (kBase v hf n), .ref me, .ref mp, .ref mc, .ref ml, .ref mb, .ref md, .ref mr, .int spr])), (ms, .inl (cI, 60, .inl f2))]) (va_runV (As := []) (rest := [.int (nI p), .ref me]) ⟨hx, hb, hml, hown, hts⟩ (c_X7_median l D cI cZ cJ H.size o7 th n mv mh len ll pen bf bl c2 ms (kBase v hf n) me mp mc ml mb md mr spr f2 (by rw [hR.1]; exact Nat.le_trans (kph_len _ hf _ _ _ _) (by omega))) (cwV 0 hts gX7_laySeasons_X7_median rfl rfl rfl (by decide +kernel) ⟨Nat.le_of_ble_eq_true rfl, Nat.le_of_ble_eq_true rfl⟩) (kpreV hK hP hD (ci := 7) (q0 := 4) rfl rfl [4, 5] (by decide +kernel) rfl) rfl rfl hl.1 rfl (lv_room (Nat.le_of_ble_eq_true rfl)) dX7_laySeasons_113 ⟨Nat.zero_le _, Nat.zero_le _⟩) hP hD hS hA [4, 5] [0, 1, 2, 3] rfl rfl (by decide +kernel) (by decide +kernel) (fun r_15 _ H locs hw hP hD hS => ?_)
        have hP : va_P D vwCl [(mv, .inl (cI, 60, .inl v)), (mh, .inl (cZ, 60, .inl hf)), (me, .inl (cI, 12, .inl g)), (mp, .inl (cI, 60, .inl pl)), (o7, .inr (7, [.int th, .int (nI n), .ref mv, .ref mh, .int (nI len), .int (nI ll), .int pen, .int bf, .int bl, .int (nI c2), .ref ms, .int (kBase v hf n), .ref me, .ref mp, .ref mc, .ref ml, .ref mb, .ref md, .ref mr, .int spr])), (ms, .inl (cI, 60, .inl f2))] H := hP
        have hD : va_D A [(mv, .inl (cI, 60, .inl v)), (mh, .inl (cZ, 60, .inl hf)), (me, .inl (cI, 12, .inl g)), (mp, .inl (cI, 60, .inl pl)), (o7, .inr (7, [.int th, .int (nI n), .ref mv, .ref mh, .int (nI len), .int (nI ll), .int pen, .int bf, .int bl, .int (nI c2), .ref ms, .int (kBase v hf n), .ref me, .ref mp, .ref mc, .ref ml, .ref mb, .ref md, .ref mr, .int spr])), (ms, .inl (cI, 60, .inl f2))] := hD
        have hr9 : r_15 = kmed f2 c2 := hw
        refine wt_i hr9 ?_
        refine wt_i (kRowR_med hR) ?_
        refine va_iast (D := D) hx hb hK hP hD hS 2 0 rfl rfl (vp_in_nI (by omega) (by decide)) dX7_laySeasons_116 (fun H locs hP hD hS => ?_)
        rw [nI_clamp (n := p) (by omega)] at hP hD
        have hP : va_P D vwCl [(mv, .inl (cI, 60, .inl v)), (mh, .inl (cZ, 60, .inl hf)), (me, .inl (cI, 12, .inl (upd g p (kMed (kph v hf len (kBase v hf n) p n))))), (mp, .inl (cI, 60, .inl pl)), (o7, .inr (7, [.int th, .int (nI n), .ref mv, .ref mh, .int (nI len), .int (nI ll), .int pen, .int bf, .int bl, .int (nI c2), .ref ms, .int (kBase v hf n), .ref me, .ref mp, .ref mc, .ref ml, .ref mb, .ref md, .ref mr, .int spr])), (ms, .inl (cI, 60, .inl f2))] H := hP
        have hD : va_D A [(mv, .inl (cI, 60, .inl v)), (mh, .inl (cZ, 60, .inl hf)), (me, .inl (cI, 12, .inl (upd g p (kMed (kph v hf len (kBase v hf n) p n))))), (mp, .inl (cI, 60, .inl pl)), (o7, .inr (7, [.int th, .int (nI n), .ref mv, .ref mh, .int (nI len), .int (nI ll), .int pen, .int bf, .int bl, .int (nI c2), .ref ms, .int (kBase v hf n), .ref me, .ref mp, .ref mc, .ref ml, .ref mb, .ref md, .ref mr, .int spr])), (ms, .inl (cI, 60, .inl f2))] := hD
        refine lv_iinc (v := nI (p + 1)) (lv' := [(1, .int (nI (p + 1))), (2, .int (nI k)), (0, .ref o7)]) hx hb dX7_laySeasons_117 hl (k := 1) rfl (by exact nI_add _ 1) (by decide) rfl (fun ls hl => ?_)
        refine lv_goto (tgt := 50) hx hb dX7_laySeasons_120 (by decide) ?_
        exact ih_6 _ (by omega) _ _ _ ⟨(p + 1), _, _, _, rfl, by omega, fun j hj => by
            by_cases e9 : j = p
            · rw [e9, pk_us]; rfl
            · rw [pk_un e9]; exact h1 j (by omega), hP, hD, hS, lv_sub hl [0, 2] rfl⟩
      · skip
        have c70 := knle (a := n) (b := k) c70 (by omega) (by omega)
        refine lv_aload_n hx hb dX7_laySeasons_73 rfl (lv_at hl 2 rfl) ?_
        refine va_get (D := D) (ci := 7) (v := .ref mh) (C := RX7) (T := TX7) (N := 20) hx hb hts hinX7 hown hK hP 4 rfl rfl 3 (by decide) (hts (.fieldLink RX7 13 "SeriesWatcherModel" "holiday" "[Z") (by decide +kernel)) (fun _ h9 => h9) rfl dX7_laySeasons_74 ?_
        refine lv_iload_n hx hb dX7_laySeasons_77 rfl (lv_at hl 0 rfl) ?_
        refine va_zald (D := D) hx hb hK hP 1 1 rfl rfl (vp_in_nI (by omega) (by decide)) dX7_laySeasons_78 ?_
        refine wt_i (by rw [nI_clamp (n := k) (by omega)]) ?_
        refine lv_if_ne (tgt := 97) hx hb dX7_laySeasons_79 (by decide) (fun c79 => ?_) (fun c79 => ?_)
        · skip
          have hnew : kRowR (kph v hf len (kBase v hf n) p (k + len)) c2 f2 := by rw [kph_step (by omega) hkp, if_neg c79, List.append_nil]; exact hR
          refine lv_iload_n hx hb dX7_laySeasons_97 rfl (lv_at hl 0 rfl) ?_
          refine lv_aload_n hx hb dX7_laySeasons_98 rfl (lv_at hl 2 rfl) ?_
          refine va_get (D := D) (ci := 7) (v := .int (nI len)) (C := RX7) (T := TX7) (N := 20) hx hb hts hinX7 hown hK hP 4 rfl rfl 4 (by decide) (hts (.fieldLink RX7 17 "SeriesWatcherModel" "length" "I") (by decide +kernel)) (fun _ h9 => h9) rfl dX7_laySeasons_99 ?_
          refine lv_iadd hx hb dX7_laySeasons_102 ?_
          refine wt_i (nI_add _ _) ?_
          refine lv_istore_n (lv' := [(2, .int (nI (k + len))), (1, .int (nI p)), (0, .ref o7)]) hx hb dX7_laySeasons_103 rfl hl (by decide) rfl (fun ls hl => ?_)
          refine lv_goto (tgt := 65) hx hb dX7_laySeasons_104 (by decide) ?_
          exact ih_12 _ (by omega) _ _ _ ⟨(k + len), _, _, rfl, by omega, by rw [Nat.add_mod_right]; exact hkp, fun i a b => by rcases Nat.lt_or_ge i k with q | q; exact hg i a q; exact kmod_gap hkp (by omega) b, hnew, hP, hD, hS, lv_sub hl [0, 1, 2] rfl⟩
        · skip
          have hm : c2 ≤ k := by rw [hR.1]; exact kph_len _ hf _ _ _ k
          refine lv_aload_n hx hb dX7_laySeasons_82 rfl (lv_at hl 2 rfl) ?_
          refine lv_aload_n hx hb dX7_laySeasons_83 rfl (lv_at hl 2 rfl) ?_
          refine va_get (D := D) (ci := 7) (v := .ref mv) (C := RX7) (T := TX7) (N := 20) hx hb hts hinX7 hown hK hP 4 rfl rfl 2 (by decide) (hts (.fieldLink RX7 7 "SeriesWatcherModel" "value" "[I") (by decide +kernel)) (fun _ h9 => h9) rfl dX7_laySeasons_84 ?_
          refine lv_iload_n hx hb dX7_laySeasons_87 rfl (lv_at hl 0 rfl) ?_
          refine va_iald (D := D) hx hb hK hP 0 0 rfl rfl (vp_in_nI (by omega) (by decide)) dX7_laySeasons_88 ?_
          refine wt_i (by rw [nI_clamp (n := k) (by omega)]) ?_
          refine lv_aload_n hx hb dX7_laySeasons_89 rfl (lv_at hl 2 rfl) ?_
          refine va_get (D := D) (ci := 7) (v := .int (kBase v hf n)) (C := RX7) (T := TX7) (N := 20) hx hb hts hinX7 hown hK hP 4 rfl rfl 11 (by decide) (hts (.fieldLink RX7 78 "SeriesWatcherModel" "middle" "I") (by decide +kernel)) (fun _ h9 => h9) rfl dX7_laySeasons_90 ?_
          refine lv_isub hx hb dX7_laySeasons_93 ?_
          refine kcv (wr := [(mv, .inl (cI, 60, .inl v)), (mh, .inl (cZ, 60, .inl hf)), (me, .inl (cI, 12, .inl g)), (mp, .inl (cI, 60, .inl pl))]) (pre := [(o7, .inr (7, [.int th, .int (nI n), .ref mv, .ref mh, .int (nI len), .int (nI ll), .int pen, .int bf, .int bl, .int (nI c2), .ref ms, .int (kBase v hf n), .ref me, .ref mp, .ref mc, .ref ml, .ref mb, .ref md, .ref mr, .int spr])), (ms, .inl (cI, 60, .inl f2))]) (va_runV (As := [.int ((v k) - (kBase v hf n))]) (rest := []) ⟨hx, hb, hml, hown, hts⟩ (c_X7_count l D cI cZ cJ H.size o7 th n mv mh len ll pen bf bl c2 ms (kBase v hf n) me mp mc ml mb md mr spr f2 ((v k) - (kBase v hf n)) (by omega)) (cwV 1 hts gX7_laySeasons_X7_count rfl rfl rfl (by decide +kernel) ⟨Nat.le_of_ble_eq_true rfl, Nat.le_of_ble_eq_true rfl⟩) (kpreV hK hP hD (ci := 7) (q0 := 4) rfl rfl [4, 5] (by decide +kernel) rfl) rfl rfl hl.1 rfl (lv_room (Nat.le_of_ble_eq_true rfl)) dX7_laySeasons_94 ⟨Nat.zero_le _, Nat.zero_le _⟩) hP hD hS hA [4, 5] [0, 1, 2, 3] rfl rfl (by decide +kernel) (by decide +kernel) (fun f2_17 H locs hw hP hD hS => ?_)
          have hP : va_P D vwCl [(mv, .inl (cI, 60, .inl v)), (mh, .inl (cZ, 60, .inl hf)), (me, .inl (cI, 12, .inl g)), (mp, .inl (cI, 60, .inl pl)), (o7, .inr (7, [.int th, .int (nI n), .ref mv, .ref mh, .int (nI len), .int (nI ll), .int pen, .int bf, .int bl, .int (nI (c2 + 1)), .ref ms, .int (kBase v hf n), .ref me, .ref mp, .ref mc, .ref ml, .ref mb, .ref md, .ref mr, .int spr])), (ms, .inl (cI, 60, .inl f2_17))] H := hP
          have hD : va_D A [(mv, .inl (cI, 60, .inl v)), (mh, .inl (cZ, 60, .inl hf)), (me, .inl (cI, 12, .inl g)), (mp, .inl (cI, 60, .inl pl)), (o7, .inr (7, [.int th, .int (nI n), .ref mv, .ref mh, .int (nI len), .int (nI ll), .int pen, .int bf, .int bl, .int (nI (c2 + 1)), .ref ms, .int (kBase v hf n), .ref me, .ref mp, .ref mc, .ref ml, .ref mb, .ref md, .ref mr, .int spr])), (ms, .inl (cI, 60, .inl f2_17))] := hD
          have hw_19 : kins f2 c2 ((v k) - (kBase v hf n)) f2_17 := hw
          have hnew : kRowR (kph v hf len (kBase v hf n) p (k + len)) (c2 + 1) f2_17 := by rw [kph_step (by omega) hkp, if_pos c79]; exact kRowR_ins hR hw_19
          refine lv_iload_n hx hb dX7_laySeasons_97 rfl (lv_at hl 0 rfl) ?_
          refine lv_aload_n hx hb dX7_laySeasons_98 rfl (lv_at hl 2 rfl) ?_
          refine va_get (D := D) (ci := 7) (v := .int (nI len)) (C := RX7) (T := TX7) (N := 20) hx hb hts hinX7 hown hK hP 4 rfl rfl 4 (by decide) (hts (.fieldLink RX7 17 "SeriesWatcherModel" "length" "I") (by decide +kernel)) (fun _ h9 => h9) rfl dX7_laySeasons_99 ?_
          refine lv_iadd hx hb dX7_laySeasons_102 ?_
          refine wt_i (nI_add _ _) ?_
          refine lv_istore_n (lv' := [(2, .int (nI (k + len))), (1, .int (nI p)), (0, .ref o7)]) hx hb dX7_laySeasons_103 rfl hl (by decide) rfl (fun ls hl => ?_)
          refine lv_goto (tgt := 65) hx hb dX7_laySeasons_104 (by decide) ?_
          exact ih_12 _ (by omega) _ _ _ ⟨(k + len), _, _, rfl, by omega, by rw [Nat.add_mod_right]; exact hkp, fun i a b => by rcases Nat.lt_or_ge i k with q | q; exact hg i a q; exact kmod_gap hkp (by omega) b, hnew, hP, hD, hS, lv_sub hl [0, 1, 2] rfl⟩
  · skip
    have c12 := knle (a := n) (b := k) c12 (by omega) (by omega)
    refine lv_aload_n hx hb dX7_laySeasons_15 rfl (lv_at hl 1 rfl) ?_
    refine va_get (D := D) (ci := 7) (v := .ref mh) (C := RX7) (T := TX7) (N := 20) hx hb hts hinX7 hown hK hP 0 rfl rfl 3 (by decide) (hts (.fieldLink RX7 13 "SeriesWatcherModel" "holiday" "[Z") (by decide +kernel)) (fun _ h9 => h9) rfl dX7_laySeasons_16 ?_
    refine lv_iload_n hx hb dX7_laySeasons_19 rfl (lv_at hl 0 rfl) ?_
    refine va_zald (D := D) hx hb hK hP 2 1 rfl rfl (vp_in_nI (by omega) (by decide)) dX7_laySeasons_20 ?_
    refine wt_i (by rw [nI_clamp (n := k) (by omega)]) ?_
    refine lv_if_ne (tgt := 34) hx hb dX7_laySeasons_21 (by decide) (fun c21 => ?_) (fun c21 => ?_)
    · skip
      have hnew : kRowR (kseg v hf 0 (k + 1)) c1 f := by rw [kseg_no (Nat.zero_le _) c21]; exact hR
      refine lv_iinc (v := nI (k + 1)) (lv' := [(1, .int (nI (k + 1))), (0, .ref o7)]) hx hb dX7_laySeasons_34 hl (k := 0) rfl (by exact nI_add _ 1) (by decide) rfl (fun ls hl => ?_)
      refine lv_goto (tgt := 7) hx hb dX7_laySeasons_37 (by decide) ?_
      exact ih_1 _ (by omega) _ _ _ ⟨(k + 1), _, _, rfl, by omega, hnew, hP, hD, hS, lv_sub hl [0, 1] rfl⟩
    · skip
      have hm : c1 ≤ k := by rw [hR.1]; exact kseg_len _ hf 0 k
      refine lv_aload_n hx hb dX7_laySeasons_24 rfl (lv_at hl 1 rfl) ?_
      refine lv_aload_n hx hb dX7_laySeasons_25 rfl (lv_at hl 1 rfl) ?_
      refine va_get (D := D) (ci := 7) (v := .ref mv) (C := RX7) (T := TX7) (N := 20) hx hb hts hinX7 hown hK hP 0 rfl rfl 2 (by decide) (hts (.fieldLink RX7 7 "SeriesWatcherModel" "value" "[I") (by decide +kernel)) (fun _ h9 => h9) rfl dX7_laySeasons_26 ?_
      refine lv_iload_n hx hb dX7_laySeasons_29 rfl (lv_at hl 0 rfl) ?_
      refine va_iald (D := D) hx hb hK hP 1 0 rfl rfl (vp_in_nI (by omega) (by decide)) dX7_laySeasons_30 ?_
      refine wt_i (by rw [nI_clamp (n := k) (by omega)]) ?_
      refine kcv (wr := [(mv, .inl (cI, 60, .inl v)), (mh, .inl (cZ, 60, .inl hf)), (me, .inl (cI, 12, .inl se)), (mp, .inl (cI, 60, .inl pl))]) (pre := [(o7, .inr (7, [.int th, .int (nI n), .ref mv, .ref mh, .int (nI len), .int (nI ll), .int pen, .int bf, .int bl, .int (nI c1), .ref ms, .int mid, .ref me, .ref mp, .ref mc, .ref ml, .ref mb, .ref md, .ref mr, .int spr])), (ms, .inl (cI, 60, .inl f))]) (va_runV (As := [.int (v k)]) (rest := []) ⟨hx, hb, hml, hown, hts⟩ (c_X7_count l D cI cZ cJ H.size o7 th n mv mh len ll pen bf bl c1 ms mid me mp mc ml mb md mr spr f (v k) (by first | assumption | omega)) (cwV 1 hts gX7_laySeasons_X7_count rfl rfl rfl (by decide +kernel) ⟨Nat.le_of_ble_eq_true rfl, Nat.le_of_ble_eq_true rfl⟩) (kpreV hK hP hD (ci := 7) (q0 := 0) rfl rfl [0, 3] (by decide +kernel) rfl) rfl rfl hl.1 rfl (lv_room (Nat.le_of_ble_eq_true rfl)) dX7_laySeasons_31 ⟨Nat.zero_le _, Nat.zero_le _⟩) hP hD hS hA [0, 3] [1, 2, 4, 5] rfl rfl (by decide +kernel) (by decide +kernel) (fun f2_20 H locs hw hP hD hS => ?_)
      have hP : va_P D vwCl [(mv, .inl (cI, 60, .inl v)), (mh, .inl (cZ, 60, .inl hf)), (me, .inl (cI, 12, .inl se)), (mp, .inl (cI, 60, .inl pl)), (o7, .inr (7, [.int th, .int (nI n), .ref mv, .ref mh, .int (nI len), .int (nI ll), .int pen, .int bf, .int bl, .int (nI (c1 + 1)), .ref ms, .int mid, .ref me, .ref mp, .ref mc, .ref ml, .ref mb, .ref md, .ref mr, .int spr])), (ms, .inl (cI, 60, .inl f2_20))] H := hP
      have hD : va_D A [(mv, .inl (cI, 60, .inl v)), (mh, .inl (cZ, 60, .inl hf)), (me, .inl (cI, 12, .inl se)), (mp, .inl (cI, 60, .inl pl)), (o7, .inr (7, [.int th, .int (nI n), .ref mv, .ref mh, .int (nI len), .int (nI ll), .int pen, .int bf, .int bl, .int (nI (c1 + 1)), .ref ms, .int mid, .ref me, .ref mp, .ref mc, .ref ml, .ref mb, .ref md, .ref mr, .int spr])), (ms, .inl (cI, 60, .inl f2_20))] := hD
      have hw_22 : kins f c1 (v k) f2_20 := hw
      have hnew := kRowR_ins hR hw_22
      rw [← kseg_yes (Nat.zero_le _) c21] at hnew
      refine lv_iinc (v := nI (k + 1)) (lv' := [(1, .int (nI (k + 1))), (0, .ref o7)]) hx hb dX7_laySeasons_34 hl (k := 0) rfl (by exact nI_add _ 1) (by decide) rfl (fun ls hl => ?_)
      refine lv_goto (tgt := 7) hx hb dX7_laySeasons_37 (by decide) ?_
      exact ih_1 _ (by omega) _ _ _ ⟨(k + 1), _, _, rfl, by omega, hnew, kPsub hP [4, 0, 1, 5, 2, 3] rfl, hD.sub [4, 0, 1, 5, 2, 3] (by decide) rfl, hS, lv_sub hl [0, 1] rfl⟩

set_option maxHeartbeats 4000000 in
set_option maxRecDepth 100000 in
theorem c_X7_laySegments (l : Launch) (D : va_G) (cI cZ cJ : ClassId) (sz : Nat) (o7 : Nat) (th : Int32) (n mv mh len ll : Nat) (pen bf bl : Int32) (cn ms : Nat) (mid : Int32) (me mp mc ml mb md mr : Nat) (spr : Int32) (hf fs pl co le : Nat → Int32) (hn : n ≤ 60) (hbit : ∀ k, kbit (hf k)) : Met l yX7_laySegments wsX7_laySegments ({ frames := 2, cells := 0, slots := 0, locals := 60 }) (va_Pc [.ref o7] (kPre D (tyA cI cZ cJ) sz [(o7, .inr (7, [.int th, .int (nI n), .ref mv, .ref mh, .int (nI len), .int (nI ll), .int pen, .int bf, .int bl, .int (nI cn), .ref ms, .int mid, .ref me, .ref mp, .ref mc, .ref ml, .ref mb, .ref md, .ref mr, .int spr])), (mh, .inl (cZ, 60, .inl hf)), (ms, .inl (cI, 60, .inl fs)), (mp, .inl (cI, 60, .inl pl)), (mc, .inl (cI, 3721, .inl co)), (ml, .inl (cI, 3721, .inl le))])) (va_Qv (fun (u : Nat × (Nat → Int32) × (Nat → Int32) × (Nat → Int32)) => match u with | (cn2, f92, co9, le9) => (∀ a b, a < n → a < b → b ≤ n → le9 (61 * a + b) = kLev pl hf a b ∧ co9 (61 * a + b) = kSumM (kseg pl hf a b))) (kPost D (tyA cI cZ cJ) (va_A [(o7, .inr (7, [.int th, .int (nI n), .ref mv, .ref mh, .int (nI len), .int (nI ll), .int pen, .int bf, .int bl, .int (nI cn), .ref ms, .int mid, .ref me, .ref mp, .ref mc, .ref ml, .ref mb, .ref md, .ref mr, .int spr])), (mh, .inl (cZ, 60, .inl hf)), (ms, .inl (cI, 60, .inl fs)), (mp, .inl (cI, 60, .inl pl)), (mc, .inl (cI, 3721, .inl co)), (ml, .inl (cI, 3721, .inl le))] sz) (fun (u : Nat × (Nat → Int32) × (Nat → Int32) × (Nat → Int32)) => match u with | (cn2, f92, co9, le9) => [(o7, .inr (7, [.int th, .int (nI n), .ref mv, .ref mh, .int (nI len), .int (nI ll), .int pen, .int bf, .int bl, .int (nI cn2), .ref ms, .int mid, .ref me, .ref mp, .ref mc, .ref ml, .ref mb, .ref md, .ref mr, .int spr])), (mh, .inl (cZ, 60, .inl hf)), (ms, .inl (cI, 60, .inl f92)), (mp, .inl (cI, 60, .inl pl)), (mc, .inl (cI, 3721, .inl co9)), (ml, .inl (cI, 3721, .inl le9))])) (va_A [(o7, .inr (7, [.int th, .int (nI n), .ref mv, .ref mh, .int (nI len), .int (nI ll), .int pen, .int bf, .int bl, .int (nI cn), .ref ms, .int mid, .ref me, .ref mp, .ref mc, .ref ml, .ref mb, .ref md, .ref mr, .int spr])), (mh, .inl (cZ, 60, .inl hf)), (ms, .inl (cI, 60, .inl fs)), (mp, .inl (cI, 60, .inl pl)), (mc, .inl (cI, 3721, .inl co)), (ml, .inl (cI, 3721, .inl le))] sz)) 0 0 (va_A [(o7, .inr (7, [.int th, .int (nI n), .ref mv, .ref mh, .int (nI len), .int (nI ll), .int pen, .int bf, .int bl, .int (nI cn), .ref ms, .int mid, .ref me, .ref mp, .ref mc, .ref ml, .ref mb, .ref md, .ref mr, .int spr])), (mh, .inl (cZ, 60, .inl hf)), (ms, .inl (cI, 60, .inl fs)), (mp, .inl (cI, 60, .inl pl)), (mc, .inl (cI, 3721, .inl co)), (ml, .inl (cI, 3721, .inl le))] sz) := by
  refine kOfW (cc := cX7_laySegments) (maxL := 3) (ret := none) (fun A => va_Qv (fun (u : Nat × (Nat → Int32) × (Nat → Int32) × (Nat → Int32)) => match u with | (cn2, f92, co9, le9) => (∀ a b, a < n → a < b → b ≤ n → le9 (61 * a + b) = kLev pl hf a b ∧ co9 (61 * a + b) = kSumM (kseg pl hf a b))) (kPost D (tyA cI cZ cJ) (A) (fun (u : Nat × (Nat → Int32) × (Nat → Int32) × (Nat → Int32)) => match u with | (cn2, f92, co9, le9) => [(o7, .inr (7, [.int th, .int (nI n), .ref mv, .ref mh, .int (nI len), .int (nI ll), .int pen, .int bf, .int bl, .int (nI cn2), .ref ms, .int mid, .ref me, .ref mp, .ref mc, .ref ml, .ref mb, .ref md, .ref mr, .int spr])), (mh, .inl (cZ, 60, .inl hf)), (ms, .inl (cI, 60, .inl f92)), (mp, .inl (cI, 60, .inl pl)), (mc, .inl (cI, 3721, .inl co9)), (ml, .inl (cI, 3721, .inl le9))])) (A)) (by decide) rfl (Nat.le_of_ble_eq_true rfl) ?_
  intro p_ e_ s m_ below_ meth_ c_ A ls hx hb hr hml hts hown hlocks hin hA hP hK hD hsz hl
  have hS : va_S A s.heap s.heap [] := va_S.rf
  have hl : lv_has ls 3 [(0, .ref o7)] := hl
  have hinX7 : ∀ w ∈ wsX70, w ∈ wsX7_laySegments := fun w h => List.mem_cons_of_mem _ (List.mem_append_right _ h)
  refine lv_iconst (v := nI 0) hx hb dX7_laySegments_0 (by decide) ?_
  refine lv_istore_n (lv' := [(1, .int (nI 0)), (0, .ref o7)]) hx hb dX7_laySegments_1 rfl hl (by decide) rfl (fun ls hl => ?_)
  refine wl_loop (fun (d9 : Nat) (H : Heap) (locs : List Loc) (ls : Array Slot) => ∃ (a9 : Nat) (c1 : Nat) (f : Nat → Int32) (co1 : Nat → Int32) (le1 : Nat → Int32), d9 = n - a9 ∧ (a9 ≤ n) ∧ ((∀ a b, a < a9 → a < b → b ≤ n → le1 (61 * a + b) = kLev pl hf a b ∧ co1 (61 * a + b) = kSumM (kseg pl hf a b))) ∧ va_P D vwCl [(o7, .inr (7, [.int th, .int (nI n), .ref mv, .ref mh, .int (nI len), .int (nI ll), .int pen, .int bf, .int bl, .int (nI c1), .ref ms, .int mid, .ref me, .ref mp, .ref mc, .ref ml, .ref mb, .ref md, .ref mr, .int spr])), (mh, .inl (cZ, 60, .inl hf)), (ms, .inl (cI, 60, .inl f)), (mp, .inl (cI, 60, .inl pl)), (mc, .inl (cI, 3721, .inl co1)), (ml, .inl (cI, 3721, .inl le1))] H ∧ va_D A [(o7, .inr (7, [.int th, .int (nI n), .ref mv, .ref mh, .int (nI len), .int (nI ll), .int pen, .int bf, .int bl, .int (nI c1), .ref ms, .int mid, .ref me, .ref mp, .ref mc, .ref ml, .ref mb, .ref md, .ref mr, .int spr])), (mh, .inl (cZ, 60, .inl hf)), (ms, .inl (cI, 60, .inl f)), (mp, .inl (cI, 60, .inl pl)), (mc, .inl (cI, 3721, .inl co1)), (ml, .inl (cI, 3721, .inl le1))] ∧ va_S A s.heap H locs ∧ lv_has ls 3 [(1, .int (nI a9)), (0, .ref o7)]) ?_ _ ⟨0, _, _, _, _, rfl, Nat.zero_le _, fun a b q => absurd q (Nat.not_lt_zero a), hP, hD, hS, lv_sub hl [0, 1] rfl⟩
  rintro d_2 H locs ls ⟨a9, c1, f, co1, le1, hd_3, ha, h1, hP, hD, hS, hl⟩ ih_1
  refine lv_iload_n hx hb dX7_laySegments_2 rfl (lv_at hl 0 rfl) ?_
  refine lv_aload_n hx hb dX7_laySegments_3 rfl (lv_at hl 1 rfl) ?_
  refine va_get (D := D) (ci := 7) (v := .int (nI n)) (C := RX7) (T := TX7) (N := 20) hx hb hts hinX7 hown hK hP 0 rfl rfl 1 (by decide) (hts (.fieldLink RX7 60 "SeriesWatcherModel" "many" "I") (by decide +kernel)) (fun _ h9 => h9) rfl dX7_laySegments_4 ?_
  refine lv_icmp_ge (tgt := 96) hx hb dX7_laySegments_7 (by decide) (fun c7 => ?_) (fun c7 => ?_)
  · skip
    have c7 := kle (a := n) (b := a9) c7 (by omega) (by omega)
    have ea : a9 = n := by omega
    rw [ea] at h1
    exact krv hx hb hr hlocks hP hK hD hS (_, _, _, _) (h1) [0, 1, 2, 3, 4, 5] (by decide +kernel) rfl dX7_laySegments_96
  · skip
    have c7 := knle (a := n) (b := a9) c7 (by omega) (by omega)
    refine lv_aload_n hx hb dX7_laySegments_10 rfl (lv_at hl 1 rfl) ?_
    refine lv_iconst (v := nI 0) hx hb dX7_laySegments_11 (by decide) ?_
    refine va_put (D := D) (ci := 7) (v := .int (nI 0)) (ty := .int) (C := RX7) (T := TX7) (N := 20) hx hb hts hinX7 tyX7 tyX7_ok nmX7 hown hK hP hD hS 0 rfl rfl 9 (by decide) (hts (.fieldLink RX7 67 "SeriesWatcherModel" "counted" "I") (by decide +kernel)) (fun _ h9 => h9) rfl (by decide +kernel) rfl rfl (Nat.le_of_ble_eq_true rfl) dX7_laySegments_12 (fun H locs hP hD hS => ?_)
    have hP : va_P D vwCl [(o7, .inr (7, [.int th, .int (nI n), .ref mv, .ref mh, .int (nI len), .int (nI ll), .int pen, .int bf, .int bl, .int (nI 0), .ref ms, .int mid, .ref me, .ref mp, .ref mc, .ref ml, .ref mb, .ref md, .ref mr, .int spr])), (mh, .inl (cZ, 60, .inl hf)), (ms, .inl (cI, 60, .inl f)), (mp, .inl (cI, 60, .inl pl)), (mc, .inl (cI, 3721, .inl co1)), (ml, .inl (cI, 3721, .inl le1))] H := hP
    have hD : va_D A [(o7, .inr (7, [.int th, .int (nI n), .ref mv, .ref mh, .int (nI len), .int (nI ll), .int pen, .int bf, .int bl, .int (nI 0), .ref ms, .int mid, .ref me, .ref mp, .ref mc, .ref ml, .ref mb, .ref md, .ref mr, .int spr])), (mh, .inl (cZ, 60, .inl hf)), (ms, .inl (cI, 60, .inl f)), (mp, .inl (cI, 60, .inl pl)), (mc, .inl (cI, 3721, .inl co1)), (ml, .inl (cI, 3721, .inl le1))] := hD
    refine lv_iload_n hx hb dX7_laySegments_15 rfl (lv_at hl 0 rfl) ?_
    refine lv_iconst (v := nI 1) hx hb dX7_laySegments_16 (by decide) ?_
    refine lv_iadd hx hb dX7_laySegments_17 ?_
    refine wt_i (nI_add _ _) ?_
    refine lv_istore_n (lv' := [(2, .int (nI (a9 + 1))), (1, .int (nI a9)), (0, .ref o7)]) hx hb dX7_laySegments_18 rfl hl (by decide) rfl (fun ls hl => ?_)
    refine wl_loop (fun (d9 : Nat) (H : Heap) (locs : List Loc) (ls : Array Slot) => ∃ (e : Nat) (c2 : Nat) (f2 : Nat → Int32) (co2 : Nat → Int32) (le2 : Nat → Int32), d9 = n + 1 - e ∧ (a9 < e) ∧ (e ≤ n + 1) ∧ (kRowR (kseg pl hf a9 (e - 1)) c2 f2) ∧ ((∀ a b, a < a9 → a < b → b ≤ n → le2 (61 * a + b) = kLev pl hf a b ∧ co2 (61 * a + b) = kSumM (kseg pl hf a b))) ∧ (∀ b, a9 < b → b < e → le2 (61 * a9 + b) = kLev pl hf a9 b ∧ co2 (61 * a9 + b) = kSumM (kseg pl hf a9 b)) ∧ va_P D vwCl [(o7, .inr (7, [.int th, .int (nI n), .ref mv, .ref mh, .int (nI len), .int (nI ll), .int pen, .int bf, .int bl, .int (nI c2), .ref ms, .int mid, .ref me, .ref mp, .ref mc, .ref ml, .ref mb, .ref md, .ref mr, .int spr])), (mh, .inl (cZ, 60, .inl hf)), (ms, .inl (cI, 60, .inl f2)), (mp, .inl (cI, 60, .inl pl)), (mc, .inl (cI, 3721, .inl co2)), (ml, .inl (cI, 3721, .inl le2))] H ∧ va_D A [(o7, .inr (7, [.int th, .int (nI n), .ref mv, .ref mh, .int (nI len), .int (nI ll), .int pen, .int bf, .int bl, .int (nI c2), .ref ms, .int mid, .ref me, .ref mp, .ref mc, .ref ml, .ref mb, .ref md, .ref mr, .int spr])), (mh, .inl (cZ, 60, .inl hf)), (ms, .inl (cI, 60, .inl f2)), (mp, .inl (cI, 60, .inl pl)), (mc, .inl (cI, 3721, .inl co2)), (ml, .inl (cI, 3721, .inl le2))] ∧ va_S A s.heap H locs ∧ lv_has ls 3 [(2, .int (nI e)), (1, .int (nI a9)), (0, .ref o7)]) ?_ _ ⟨(a9 + 1), 0, _, _, _, rfl, by omega, by omega, by rw [Nat.add_sub_cancel, kseg_0]; exact kRowR_0 _, h1, fun b q1 q2 => absurd q2 (by omega), hP, hD, hS, lv_sub hl [0, 1, 2] rfl⟩
    rintro d_5 H locs ls ⟨e, c2, f2, co2, le2, hd_6, he1, he2, hR, h2, h3, hP, hD, hS, hl⟩ ih_4
    refine lv_iload_n hx hb dX7_laySegments_19 rfl (lv_at hl 0 rfl) ?_
    refine lv_aload_n hx hb dX7_laySegments_20 rfl (lv_at hl 2 rfl) ?_
    refine va_get (D := D) (ci := 7) (v := .int (nI n)) (C := RX7) (T := TX7) (N := 20) hx hb hts hinX7 hown hK hP 0 rfl rfl 1 (by decide) (hts (.fieldLink RX7 60 "SeriesWatcherModel" "many" "I") (by decide +kernel)) (fun _ h9 => h9) rfl dX7_laySegments_21 ?_
    refine lv_icmp_gt (tgt := 90) hx hb dX7_laySegments_24 (by decide) (fun c24 => ?_) (fun c24 => ?_)
    · skip
      have c24 := klt (a := n) (b := e) c24 (by omega) (by omega)
      refine lv_iinc (v := nI (a9 + 1)) (lv' := [(1, .int (nI (a9 + 1))), (2, .int (nI e)), (0, .ref o7)]) hx hb dX7_laySegments_90 hl (k := 1) rfl (by exact nI_add _ 1) (by decide) rfl (fun ls hl => ?_)
      refine lv_goto (tgt := 2) hx hb dX7_laySegments_93 (by decide) ?_
      exact ih_1 _ (by omega) _ _ _ ⟨(a9 + 1), _, _, _, _, rfl, by omega, fun a b q1 q2 q3 => by rcases Nat.eq_or_lt_of_le (Nat.le_of_lt_succ q1) with q | q; (subst q; exact h3 b q2 (by omega)); exact h2 a b q q2 q3, hP, hD, hS, lv_sub hl [0, 2] rfl⟩
    · skip
      have c24 := knlt (a := n) (b := e) c24 (by omega) (by omega)
      refine lv_aload_n hx hb dX7_laySegments_27 rfl (lv_at hl 2 rfl) ?_
      refine va_get (D := D) (ci := 7) (v := .ref mh) (C := RX7) (T := TX7) (N := 20) hx hb hts hinX7 hown hK hP 0 rfl rfl 3 (by decide) (hts (.fieldLink RX7 13 "SeriesWatcherModel" "holiday" "[Z") (by decide +kernel)) (fun _ h9 => h9) rfl dX7_laySegments_28 ?_
      refine lv_iload_n hx hb dX7_laySegments_31 rfl (lv_at hl 0 rfl) ?_
      refine lv_iconst (v := nI 1) hx hb dX7_laySegments_32 (by decide) ?_
      refine lv_isub hx hb dX7_laySegments_33 ?_
      refine wt_i (pk_sub (by omega)) ?_
      refine va_zald (D := D) hx hb hK hP 1 1 rfl rfl (vp_in_nI (by omega) (by decide)) dX7_laySegments_34 ?_
      refine wt_i (by rw [nI_clamp (n := (e - 1)) (by omega)]) ?_
      refine wl_join (pc2 := 50) (fun (stk : List Value) (H : Heap) (locs : List Loc) (ls : Array Slot) => ∃ (c3 : Nat) (f3 : Nat → Int32), stk = [] ∧ (kRowR (kseg pl hf a9 e) c3 f3) ∧ (c3 ≤ 60) ∧ va_P D vwCl [(o7, .inr (7, [.int th, .int (nI n), .ref mv, .ref mh, .int (nI len), .int (nI ll), .int pen, .int bf, .int bl, .int (nI c3), .ref ms, .int mid, .ref me, .ref mp, .ref mc, .ref ml, .ref mb, .ref md, .ref mr, .int spr])), (mh, .inl (cZ, 60, .inl hf)), (ms, .inl (cI, 60, .inl f3)), (mp, .inl (cI, 60, .inl pl)), (mc, .inl (cI, 3721, .inl co2)), (ml, .inl (cI, 3721, .inl le2))] H ∧ va_D A [(o7, .inr (7, [.int th, .int (nI n), .ref mv, .ref mh, .int (nI len), .int (nI ll), .int pen, .int bf, .int bl, .int (nI c3), .ref ms, .int mid, .ref me, .ref mp, .ref mc, .ref ml, .ref mb, .ref md, .ref mr, .int spr])), (mh, .inl (cZ, 60, .inl hf)), (ms, .inl (cI, 60, .inl f3)), (mp, .inl (cI, 60, .inl pl)), (mc, .inl (cI, 3721, .inl co2)), (ml, .inl (cI, 3721, .inl le2))] ∧ va_S A s.heap H locs ∧ lv_has ls 3 [(2, .int (nI e)), (1, .int (nI a9)), (0, .ref o7)]) ?_ (fun j_7 => ?_)
      · skip
        rintro stk H locs ls ⟨c3, f3, rfl, hRn, hc3, hP, hD, hS, hl⟩
        refine lv_aload_n hx hb dX7_laySegments_50 rfl (lv_at hl 2 rfl) ?_
        refine va_get (D := D) (ci := 7) (v := .ref ml) (C := RX7) (T := TX7) (N := 20) hx hb hts hinX7 hown hK hP 0 rfl rfl 15 (by decide) (hts (.fieldLink RX7 45 "SeriesWatcherModel" "levels" "[I") (by decide +kernel)) (fun _ h9 => h9) rfl dX7_laySegments_51 ?_
        refine lv_bipush (v := nI 61) hx hb dX7_laySegments_54 (by decide) ?_
        refine lv_iload_n hx hb dX7_laySegments_56 rfl (lv_at hl 1 rfl) ?_
        refine lv_imul hx hb dX7_laySegments_57 ?_
        refine wt_i (pk_mul _ _) ?_
        refine lv_iload_n hx hb dX7_laySegments_58 rfl (lv_at hl 0 rfl) ?_
        refine lv_iadd hx hb dX7_laySegments_59 ?_
        refine wt_i (nI_add _ _) ?_
        refine lv_aload_n hx hb dX7_laySegments_60 rfl (lv_at hl 2 rfl) ?_
        refine kci (wr := [(mh, .inl (cZ, 60, .inl hf)), (mp, .inl (cI, 60, .inl pl)), (mc, .inl (cI, 3721, .inl co2)), (ml, .inl (cI, 3721, .inl le2))]) (pre := [(o7, .inr (7, [.int th, .int (nI n), .ref mv, .ref mh, .int (nI len), .int (nI ll), .int pen, .int bf, .int bl, .int (nI c3), .ref ms, .int mid, .ref me, .ref mp, .ref mc, .ref ml, .ref mb, .ref md, .ref mr, .int spr])), (ms, .inl (cI, 60, .inl f3))]) (va_runV (As := []) (rest := [.int (nI ((61 * a9) + e)), .ref ml]) ⟨hx, hb, hml, hown, hts⟩ (c_X7_median l D cI cZ cJ H.size o7 th n mv mh len ll pen bf bl c3 ms mid me mp mc ml mb md mr spr f3 (by first | assumption | omega)) (cwV 0 hts gX7_laySegments_X7_median rfl rfl rfl (by decide +kernel) ⟨Nat.le_of_ble_eq_true rfl, Nat.le_of_ble_eq_true rfl⟩) (kpreV hK hP hD (ci := 7) (q0 := 0) rfl rfl [0, 2] (by decide +kernel) rfl) rfl rfl hl.1 rfl (lv_room (Nat.le_of_ble_eq_true rfl)) dX7_laySegments_61 ⟨Nat.zero_le _, Nat.zero_le _⟩) hP hD hS hA [0, 2] [1, 3, 4, 5] rfl rfl (by decide +kernel) (by decide +kernel) (fun r_8 _ H locs hw hP hD hS => ?_)
        have hP : va_P D vwCl [(mh, .inl (cZ, 60, .inl hf)), (mp, .inl (cI, 60, .inl pl)), (mc, .inl (cI, 3721, .inl co2)), (ml, .inl (cI, 3721, .inl le2)), (o7, .inr (7, [.int th, .int (nI n), .ref mv, .ref mh, .int (nI len), .int (nI ll), .int pen, .int bf, .int bl, .int (nI c3), .ref ms, .int mid, .ref me, .ref mp, .ref mc, .ref ml, .ref mb, .ref md, .ref mr, .int spr])), (ms, .inl (cI, 60, .inl f3))] H := hP
        have hD : va_D A [(mh, .inl (cZ, 60, .inl hf)), (mp, .inl (cI, 60, .inl pl)), (mc, .inl (cI, 3721, .inl co2)), (ml, .inl (cI, 3721, .inl le2)), (o7, .inr (7, [.int th, .int (nI n), .ref mv, .ref mh, .int (nI len), .int (nI ll), .int pen, .int bf, .int bl, .int (nI c3), .ref ms, .int mid, .ref me, .ref mp, .ref mc, .ref ml, .ref mb, .ref md, .ref mr, .int spr])), (ms, .inl (cI, 60, .inl f3))] := hD
        have hr9 : r_8 = kmed f3 c3 := hw
        refine wt_i hr9 ?_
        refine wt_i (kRowR_med hRn) ?_
        refine va_iast (D := D) hx hb hK hP hD hS 3 0 rfl rfl (vp_in_nI (by omega) (by decide)) dX7_laySegments_64 (fun H locs hP hD hS => ?_)
        rw [nI_clamp (n := ((61 * a9) + e)) (by omega)] at hP hD
        have hP : va_P D vwCl [(mh, .inl (cZ, 60, .inl hf)), (mp, .inl (cI, 60, .inl pl)), (mc, .inl (cI, 3721, .inl co2)), (ml, .inl (cI, 3721, .inl (upd le2 ((61 * a9) + e) (kLev pl hf a9 e)))), (o7, .inr (7, [.int th, .int (nI n), .ref mv, .ref mh, .int (nI len), .int (nI ll), .int pen, .int bf, .int bl, .int (nI c3), .ref ms, .int mid, .ref me, .ref mp, .ref mc, .ref ml, .ref mb, .ref md, .ref mr, .int spr])), (ms, .inl (cI, 60, .inl f3))] H := hP
        have hD : va_D A [(mh, .inl (cZ, 60, .inl hf)), (mp, .inl (cI, 60, .inl pl)), (mc, .inl (cI, 3721, .inl co2)), (ml, .inl (cI, 3721, .inl (upd le2 ((61 * a9) + e) (kLev pl hf a9 e)))), (o7, .inr (7, [.int th, .int (nI n), .ref mv, .ref mh, .int (nI len), .int (nI ll), .int pen, .int bf, .int bl, .int (nI c3), .ref ms, .int mid, .ref me, .ref mp, .ref mc, .ref ml, .ref mb, .ref md, .ref mr, .int spr])), (ms, .inl (cI, 60, .inl f3))] := hD
        refine lv_aload_n hx hb dX7_laySegments_65 rfl (lv_at hl 2 rfl) ?_
        refine va_get (D := D) (ci := 7) (v := .ref mc) (C := RX7) (T := TX7) (N := 20) hx hb hts hinX7 hown hK hP 4 rfl rfl 14 (by decide) (hts (.fieldLink RX7 42 "SeriesWatcherModel" "costs" "[I") (by decide +kernel)) (fun _ h9 => h9) rfl dX7_laySegments_66 ?_
        refine lv_bipush (v := nI 61) hx hb dX7_laySegments_69 (by decide) ?_
        refine lv_iload_n hx hb dX7_laySegments_71 rfl (lv_at hl 1 rfl) ?_
        refine lv_imul hx hb dX7_laySegments_72 ?_
        refine wt_i (pk_mul _ _) ?_
        refine lv_iload_n hx hb dX7_laySegments_73 rfl (lv_at hl 0 rfl) ?_
        refine lv_iadd hx hb dX7_laySegments_74 ?_
        refine wt_i (nI_add _ _) ?_
        refine lv_aload_n hx hb dX7_laySegments_75 rfl (lv_at hl 2 rfl) ?_
        refine lv_aload_n hx hb dX7_laySegments_76 rfl (lv_at hl 2 rfl) ?_
        refine kci (wr := [(mh, .inl (cZ, 60, .inl hf)), (mp, .inl (cI, 60, .inl pl)), (mc, .inl (cI, 3721, .inl co2)), (ml, .inl (cI, 3721, .inl (upd le2 ((61 * a9) + e) (kLev pl hf a9 e))))]) (pre := [(o7, .inr (7, [.int th, .int (nI n), .ref mv, .ref mh, .int (nI len), .int (nI ll), .int pen, .int bf, .int bl, .int (nI c3), .ref ms, .int mid, .ref me, .ref mp, .ref mc, .ref ml, .ref mb, .ref md, .ref mr, .int spr])), (ms, .inl (cI, 60, .inl f3))]) (va_runV (As := []) (rest := [.ref o7, .int (nI ((61 * a9) + e)), .ref mc]) ⟨hx, hb, hml, hown, hts⟩ (c_X7_median l D cI cZ cJ H.size o7 th n mv mh len ll pen bf bl c3 ms mid me mp mc ml mb md mr spr f3 (by first | assumption | omega)) (cwV 0 hts gX7_laySegments_X7_median rfl rfl rfl (by decide +kernel) ⟨Nat.le_of_ble_eq_true rfl, Nat.le_of_ble_eq_true rfl⟩) (kpreV hK hP hD (ci := 7) (q0 := 4) rfl rfl [4, 5] (by decide +kernel) rfl) rfl rfl hl.1 rfl (lv_room (Nat.le_of_ble_eq_true rfl)) dX7_laySegments_77 ⟨Nat.zero_le _, Nat.zero_le _⟩) hP hD hS hA [4, 5] [0, 1, 2, 3] rfl rfl (by decide +kernel) (by decide +kernel) (fun r_10 _ H locs hw hP hD hS => ?_)
        have hP : va_P D vwCl [(mh, .inl (cZ, 60, .inl hf)), (mp, .inl (cI, 60, .inl pl)), (mc, .inl (cI, 3721, .inl co2)), (ml, .inl (cI, 3721, .inl (upd le2 ((61 * a9) + e) (kLev pl hf a9 e)))), (o7, .inr (7, [.int th, .int (nI n), .ref mv, .ref mh, .int (nI len), .int (nI ll), .int pen, .int bf, .int bl, .int (nI c3), .ref ms, .int mid, .ref me, .ref mp, .ref mc, .ref ml, .ref mb, .ref md, .ref mr, .int spr])), (ms, .inl (cI, 60, .inl f3))] H := hP
        have hD : va_D A [(mh, .inl (cZ, 60, .inl hf)), (mp, .inl (cI, 60, .inl pl)), (mc, .inl (cI, 3721, .inl co2)), (ml, .inl (cI, 3721, .inl (upd le2 ((61 * a9) + e) (kLev pl hf a9 e)))), (o7, .inr (7, [.int th, .int (nI n), .ref mv, .ref mh, .int (nI len), .int (nI ll), .int pen, .int bf, .int bl, .int (nI c3), .ref ms, .int mid, .ref me, .ref mp, .ref mc, .ref ml, .ref mb, .ref md, .ref mr, .int spr])), (ms, .inl (cI, 60, .inl f3))] := hD
        have hr9 : r_10 = kmed f3 c3 := hw
        refine wt_i hr9 ?_
        refine wt_i (kRowR_med hRn) ?_
        refine kci (wr := [(mh, .inl (cZ, 60, .inl hf)), (mp, .inl (cI, 60, .inl pl)), (mc, .inl (cI, 3721, .inl co2)), (ml, .inl (cI, 3721, .inl (upd le2 ((61 * a9) + e) (kLev pl hf a9 e))))]) (pre := [(o7, .inr (7, [.int th, .int (nI n), .ref mv, .ref mh, .int (nI len), .int (nI ll), .int pen, .int bf, .int bl, .int (nI c3), .ref ms, .int mid, .ref me, .ref mp, .ref mc, .ref ml, .ref mb, .ref md, .ref mr, .int spr])), (ms, .inl (cI, 60, .inl f3))]) (va_runV (As := [.int (kMed (kseg pl hf a9 e))]) (rest := [.int (nI ((61 * a9) + e)), .ref mc]) ⟨hx, hb, hml, hown, hts⟩ (c_X7_costNow l D cI cZ cJ H.size o7 th n mv mh len ll pen bf bl c3 ms mid me mp mc ml mb md mr spr f3 (kMed (kseg pl hf a9 e)) (by first | assumption | omega)) (cwV 1 hts gX7_laySegments_X7_costNow rfl rfl rfl (by decide +kernel) ⟨Nat.le_of_ble_eq_true rfl, Nat.le_of_ble_eq_true rfl⟩) (kpreV hK hP hD (ci := 7) (q0 := 4) rfl rfl [4, 5] (by decide +kernel) rfl) rfl rfl hl.1 rfl (lv_room (Nat.le_of_ble_eq_true rfl)) dX7_laySegments_80 ⟨Nat.zero_le _, Nat.zero_le _⟩) hP hD hS hA [4, 5] [0, 1, 2, 3] rfl rfl (by decide +kernel) (by decide +kernel) (fun r_12 _ H locs hw hP hD hS => ?_)
        have hP : va_P D vwCl [(mh, .inl (cZ, 60, .inl hf)), (mp, .inl (cI, 60, .inl pl)), (mc, .inl (cI, 3721, .inl co2)), (ml, .inl (cI, 3721, .inl (upd le2 ((61 * a9) + e) (kLev pl hf a9 e)))), (o7, .inr (7, [.int th, .int (nI n), .ref mv, .ref mh, .int (nI len), .int (nI ll), .int pen, .int bf, .int bl, .int (nI c3), .ref ms, .int mid, .ref me, .ref mp, .ref mc, .ref ml, .ref mb, .ref md, .ref mr, .int spr])), (ms, .inl (cI, 60, .inl f3))] H := hP
        have hD : va_D A [(mh, .inl (cZ, 60, .inl hf)), (mp, .inl (cI, 60, .inl pl)), (mc, .inl (cI, 3721, .inl co2)), (ml, .inl (cI, 3721, .inl (upd le2 ((61 * a9) + e) (kLev pl hf a9 e)))), (o7, .inr (7, [.int th, .int (nI n), .ref mv, .ref mh, .int (nI len), .int (nI ll), .int pen, .int bf, .int bl, .int (nI c3), .ref ms, .int mid, .ref me, .ref mp, .ref mc, .ref ml, .ref mb, .ref md, .ref mr, .int spr])), (ms, .inl (cI, 60, .inl f3))] := hD
        have hr9 : r_12 = ksum f3 (kMed (kseg pl hf a9 e)) c3 := hw
        refine wt_i hr9 ?_
        refine wt_i (kRowR_sum hRn) ?_
        refine va_iast (D := D) hx hb hK hP hD hS 2 0 rfl rfl (vp_in_nI (by omega) (by decide)) dX7_laySegments_83 (fun H locs hP hD hS => ?_)
        rw [nI_clamp (n := ((61 * a9) + e)) (by omega)] at hP hD
        have hP : va_P D vwCl [(mh, .inl (cZ, 60, .inl hf)), (mp, .inl (cI, 60, .inl pl)), (mc, .inl (cI, 3721, .inl (upd co2 ((61 * a9) + e) (kSumM (kseg pl hf a9 e))))), (ml, .inl (cI, 3721, .inl (upd le2 ((61 * a9) + e) (kLev pl hf a9 e)))), (o7, .inr (7, [.int th, .int (nI n), .ref mv, .ref mh, .int (nI len), .int (nI ll), .int pen, .int bf, .int bl, .int (nI c3), .ref ms, .int mid, .ref me, .ref mp, .ref mc, .ref ml, .ref mb, .ref md, .ref mr, .int spr])), (ms, .inl (cI, 60, .inl f3))] H := hP
        have hD : va_D A [(mh, .inl (cZ, 60, .inl hf)), (mp, .inl (cI, 60, .inl pl)), (mc, .inl (cI, 3721, .inl (upd co2 ((61 * a9) + e) (kSumM (kseg pl hf a9 e))))), (ml, .inl (cI, 3721, .inl (upd le2 ((61 * a9) + e) (kLev pl hf a9 e)))), (o7, .inr (7, [.int th, .int (nI n), .ref mv, .ref mh, .int (nI len), .int (nI ll), .int pen, .int bf, .int bl, .int (nI c3), .ref ms, .int mid, .ref me, .ref mp, .ref mc, .ref ml, .ref mb, .ref md, .ref mr, .int spr])), (ms, .inl (cI, 60, .inl f3))] := hD
        refine lv_iinc (v := nI (e + 1)) (lv' := [(2, .int (nI (e + 1))), (1, .int (nI a9)), (0, .ref o7)]) hx hb dX7_laySegments_84 hl (k := 0) rfl (by exact nI_add _ 1) (by decide) rfl (fun ls hl => ?_)
        refine lv_goto (tgt := 19) hx hb dX7_laySegments_87 (by decide) ?_
        exact ih_4 _ (by omega) _ _ _ ⟨(e + 1), _, _, _, _, rfl, by omega, by omega, by rw [Nat.add_sub_cancel]; exact hRn, fun a b q1 q2 q3 => by rw [pk_un (by omega), pk_un (by omega)]; exact h2 a b q1 q2 q3, fun b q1 q2 => by rcases Nat.eq_or_lt_of_le (Nat.le_of_lt_succ q2) with q | q; (rw [q, pk_us, pk_us]; exact ⟨rfl, rfl⟩); (rw [pk_un (by omega), pk_un (by omega)]; exact h3 b q1 q), kPsub hP [4, 0, 5, 1, 2, 3] rfl, hD.sub [4, 0, 5, 1, 2, 3] (by decide) rfl, hS, lv_sub hl [0, 1, 2] rfl⟩
      have hm : c2 ≤ 59 := by rw [hR.1]; exact Nat.le_trans (kseg_len _ hf _ _) (by omega)
      refine lv_if_ne (tgt := 50) hx hb dX7_laySegments_35 (by decide) (fun c35 => ?_) (fun c35 => ?_)
      · skip
        exact j_7 _ _ _ _ ⟨_, _, rfl, by rw [show e = e - 1 + 1 by omega, kseg_no (by omega) c35]; exact hR, by omega, hP, hD, hS, lv_sub hl [0, 1, 2] rfl⟩
      · skip
        refine lv_aload_n hx hb dX7_laySegments_38 rfl (lv_at hl 2 rfl) ?_
        refine lv_aload_n hx hb dX7_laySegments_39 rfl (lv_at hl 2 rfl) ?_
        refine va_get (D := D) (ci := 7) (v := .ref mp) (C := RX7) (T := TX7) (N := 20) hx hb hts hinX7 hown hK hP 0 rfl rfl 13 (by decide) (hts (.fieldLink RX7 39 "SeriesWatcherModel" "plain" "[I") (by decide +kernel)) (fun _ h9 => h9) rfl dX7_laySegments_40 ?_
        refine lv_iload_n hx hb dX7_laySegments_43 rfl (lv_at hl 0 rfl) ?_
        refine lv_iconst (v := nI 1) hx hb dX7_laySegments_44 (by decide) ?_
        refine lv_isub hx hb dX7_laySegments_45 ?_
        refine wt_i (pk_sub (by omega)) ?_
        refine va_iald (D := D) hx hb hK hP 3 0 rfl rfl (vp_in_nI (by omega) (by decide)) dX7_laySegments_46 ?_
        refine wt_i (by rw [nI_clamp (n := (e - 1)) (by omega)]) ?_
        refine kcv (wr := [(mh, .inl (cZ, 60, .inl hf)), (mp, .inl (cI, 60, .inl pl)), (mc, .inl (cI, 3721, .inl co2)), (ml, .inl (cI, 3721, .inl le2))]) (pre := [(o7, .inr (7, [.int th, .int (nI n), .ref mv, .ref mh, .int (nI len), .int (nI ll), .int pen, .int bf, .int bl, .int (nI c2), .ref ms, .int mid, .ref me, .ref mp, .ref mc, .ref ml, .ref mb, .ref md, .ref mr, .int spr])), (ms, .inl (cI, 60, .inl f2))]) (va_runV (As := [.int (pl (e - 1))]) (rest := []) ⟨hx, hb, hml, hown, hts⟩ (c_X7_count l D cI cZ cJ H.size o7 th n mv mh len ll pen bf bl c2 ms mid me mp mc ml mb md mr spr f2 (pl (e - 1)) (by first | assumption | omega)) (cwV 1 hts gX7_laySegments_X7_count rfl rfl rfl (by decide +kernel) ⟨Nat.le_of_ble_eq_true rfl, Nat.le_of_ble_eq_true rfl⟩) (kpreV hK hP hD (ci := 7) (q0 := 0) rfl rfl [0, 2] (by decide +kernel) rfl) rfl rfl hl.1 rfl (lv_room (Nat.le_of_ble_eq_true rfl)) dX7_laySegments_47 ⟨Nat.zero_le _, Nat.zero_le _⟩) hP hD hS hA [0, 2] [1, 3, 4, 5] rfl rfl (by decide +kernel) (by decide +kernel) (fun f2_14 H locs hw hP hD hS => ?_)
        have hP : va_P D vwCl [(mh, .inl (cZ, 60, .inl hf)), (mp, .inl (cI, 60, .inl pl)), (mc, .inl (cI, 3721, .inl co2)), (ml, .inl (cI, 3721, .inl le2)), (o7, .inr (7, [.int th, .int (nI n), .ref mv, .ref mh, .int (nI len), .int (nI ll), .int pen, .int bf, .int bl, .int (nI (c2 + 1)), .ref ms, .int mid, .ref me, .ref mp, .ref mc, .ref ml, .ref mb, .ref md, .ref mr, .int spr])), (ms, .inl (cI, 60, .inl f2_14))] H := hP
        have hD : va_D A [(mh, .inl (cZ, 60, .inl hf)), (mp, .inl (cI, 60, .inl pl)), (mc, .inl (cI, 3721, .inl co2)), (ml, .inl (cI, 3721, .inl le2)), (o7, .inr (7, [.int th, .int (nI n), .ref mv, .ref mh, .int (nI len), .int (nI ll), .int pen, .int bf, .int bl, .int (nI (c2 + 1)), .ref ms, .int mid, .ref me, .ref mp, .ref mc, .ref ml, .ref mb, .ref md, .ref mr, .int spr])), (ms, .inl (cI, 60, .inl f2_14))] := hD
        have hct : kins f2 c2 (pl (e - 1)) f2_14 := hw
        exact j_7 _ _ _ _ ⟨_, _, rfl, by rw [show e = e - 1 + 1 by omega, kseg_yes (by omega) c35]; exact kRowR_ins hR hct, by omega, kPsub hP [4, 0, 5, 1, 2, 3] rfl, hD.sub [4, 0, 5, 1, 2, 3] (by decide) rfl, hS, lv_sub hl [0, 1, 2] rfl⟩

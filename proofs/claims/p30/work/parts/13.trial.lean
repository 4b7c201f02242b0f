set_option maxHeartbeats 4000000 in
set_option maxRecDepth 100000 in
theorem c_X5_leastFrom (l : Launch) (D : va_G) (cI cZ cJ : ClassId) (a0 n ll : Nat) (pen : Int32) (f : Nat → Int32) (hn : n ≤ 14) (hl1 : 1 ≤ ll) (hl2 : ll ≤ 10) : ∀ (k9 sz s9 d : Nat), s9 < n → d ≤ s9 → n - s9 ≤ k9 → Met l yX5_leastFrom wsX5_leastFrom ({ frames := k9 + 1, cells := 0, slots := 0, locals := 40 * k9 + 20 }) (va_Pc [.ref a0, .int (nI n), .int (nI ll), .int pen, .int (nI s9), .int (nI d)] (kPre D (tyA cI cZ cJ) sz [(a0, .inl (cI, 210, .inl f))])) (va_Qi (fun (r : Int32) (_ : Unit) => r = ktry (fun s e => f (s * 15 + e)) n ll pen k9 s9) (kPost D (tyA cI cZ cJ) (va_A [(a0, .inl (cI, 210, .inl f))] sz) (fun (_ : Unit) => [(a0, .inl (cI, 210, .inl f))])) (va_A [(a0, .inl (cI, 210, .inl f))] sz)) 0 0 (va_A [(a0, .inl (cI, 210, .inl f))] sz) := by
  intro k9
  induction k9 with
  | zero => intro sz s9 d h1 h2 h3; exact absurd h3 (by omega)
  | succ k9 ih =>
  intro sz s9 d hs9 hd9 hk9
  refine kOfW (cc := cX5_leastFrom) (maxL := 10) (ret := (some .int)) (fun A => va_Qi (fun (r : Int32) (_ : Unit) => r = ktry (fun s e => f (s * 15 + e)) n ll pen (k9 + 1) s9) (kPost D (tyA cI cZ cJ) (A) (fun (_ : Unit) => [(a0, .inl (cI, 210, .inl f))])) (A)) (by decide) rfl (Nat.le_of_ble_eq_true rfl) ?_
  intro p_ e_ s m_ below_ meth_ c_ A ls hx hb hr hml hts hown hlocks hin hA hP hK hD hsz hl
  have hS : va_S A s.heap s.heap [] := va_S.rf
  have hl : lv_has ls 10 [(0, .ref a0), (1, .int (nI n)), (2, .int (nI ll)), (3, .int pen), (4, .int (nI s9)), (5, .int (nI d))] := hl
  refine lv_iload hx hb dX5_leastFrom_0 (lv_at hl 4 rfl) ?_
  refine lv_if_lt (tgt := 28) hx hb dX5_leastFrom_2 (by decide) (fun c2 => ?_) (fun c2 => ?_)
  · skip
    have c2 := klt (a := s9) (b := 0) c2 (by omega) (by omega)
    omega
  · skip
    have c2 := knlt (a := s9) (b := 0) c2 (by omega) (by omega)
    refine lv_iload hx hb dX5_leastFrom_5 (lv_at hl 4 rfl) ?_
    refine lv_iload_n hx hb dX5_leastFrom_7 rfl (lv_at hl 1 rfl) ?_
    refine lv_icmp_ge (tgt := 28) hx hb dX5_leastFrom_8 (by decide) (fun c8 => ?_) (fun c8 => ?_)
    · skip
      have c8 := kle (a := n) (b := s9) c8 (by omega) (by omega)
      omega
    · skip
      have c8 := knle (a := n) (b := s9) c8 (by omega) (by omega)
      refine lv_iload_n hx hb dX5_leastFrom_11 rfl (lv_at hl 1 rfl) ?_
      refine lv_bipush (v := nI 14) hx hb dX5_leastFrom_12 (by decide) ?_
      refine lv_icmp_gt (tgt := 28) hx hb dX5_leastFrom_14 (by decide) (fun c14 => ?_) (fun c14 => ?_)
      · skip
        have c14 := klt (a := 14) (b := n) c14 (by omega) (by omega)
        omega
      · skip
        have c14 := knlt (a := 14) (b := n) c14 (by omega) (by omega)
        refine lv_iload_n hx hb dX5_leastFrom_17 rfl (lv_at hl 2 rfl) ?_
        refine lv_iconst (v := nI 1) hx hb dX5_leastFrom_18 (by decide) ?_
        refine lv_icmp_lt (tgt := 28) hx hb dX5_leastFrom_19 (by decide) (fun c19 => ?_) (fun c19 => ?_)
        · skip
          have c19 := klt (a := ll) (b := 1) c19 (by omega) (by omega)
          omega
        · skip
          have c19 := knlt (a := ll) (b := 1) c19 (by omega) (by omega)
          refine lv_iload hx hb dX5_leastFrom_22 (lv_at hl 5 rfl) ?_
          refine lv_iload_n hx hb dX5_leastFrom_24 rfl (lv_at hl 1 rfl) ?_
          refine lv_icmp_le (tgt := 30) hx hb dX5_leastFrom_25 (by decide) (fun c25 => ?_) (fun c25 => ?_)
          · skip
            have c25 := kle (a := d) (b := n) c25 (by omega) (by omega)
            refine lv_iload hx hb dX5_leastFrom_30 (lv_at hl 4 rfl) ?_
            refine lv_bipush (v := nI 15) hx hb dX5_leastFrom_32 (by decide) ?_
            refine lv_imul hx hb dX5_leastFrom_34 ?_
            refine wt_i (pk_mul _ _) ?_
            refine lv_istore (lv' := [(6, .int (nI (s9 * 15))), (0, .ref a0), (1, .int (nI n)), (2, .int (nI ll)), (3, .int pen), (4, .int (nI s9)), (5, .int (nI d))]) hx hb dX5_leastFrom_35 hl (by decide) rfl (fun ls hl => ?_)
            refine lv_aload_n hx hb dX5_leastFrom_37 rfl (lv_at hl 1 rfl) ?_
            refine lv_iload hx hb dX5_leastFrom_38 (lv_at hl 0 rfl) ?_
            refine lv_iload_n hx hb dX5_leastFrom_40 rfl (lv_at hl 2 rfl) ?_
            refine lv_iadd hx hb dX5_leastFrom_41 ?_
            refine wt_i (nI_add _ _) ?_
            refine va_iald (D := D) hx hb hK hP 0 0 rfl rfl (vp_in_nI (by omega) (by decide)) dX5_leastFrom_42 ?_
            refine wt_i (by rw [nI_clamp (n := ((s9 * 15) + n)) (by omega)]) ?_
            refine lv_istore (lv' := [(7, .int (f ((s9 * 15) + n))), (6, .int (nI (s9 * 15))), (0, .ref a0), (1, .int (nI n)), (2, .int (nI ll)), (3, .int pen), (4, .int (nI s9)), (5, .int (nI d))]) hx hb dX5_leastFrom_43 hl (by decide) rfl (fun ls hl => ?_)
            refine lv_iload hx hb dX5_leastFrom_45 (lv_at hl 6 rfl) ?_
            refine lv_iload_n hx hb dX5_leastFrom_47 rfl (lv_at hl 4 rfl) ?_
            refine lv_iadd hx hb dX5_leastFrom_48 ?_
            refine wt_i (nI_add _ _) ?_
            refine lv_istore (lv' := [(8, .int (nI (s9 + ll))), (7, .int (f ((s9 * 15) + n))), (6, .int (nI (s9 * 15))), (0, .ref a0), (1, .int (nI n)), (2, .int (nI ll)), (3, .int pen), (4, .int (nI s9)), (5, .int (nI d))]) hx hb dX5_leastFrom_49 hl (by decide) rfl (fun ls hl => ?_)
            refine wl_loop (fun (d9 : Nat) (H : Heap) (locs : List Loc) (ls : Array Slot) => ∃ (c : Nat) (x : Int32), d9 = n - ll + 1 - c ∧ (s9 + ll ≤ c) ∧ (c ≤ n - ll + 1 ∨ c = s9 + ll) ∧ (x = ktryTo (fun s e => f (s * 15 + e)) n ll pen s9 (ktry (fun s e => f (s * 15 + e)) n ll pen k9) (c - (s9 + ll))) ∧ va_P D vwCl [(a0, .inl (cI, 210, .inl f))] H ∧ va_D A [(a0, .inl (cI, 210, .inl f))] ∧ va_S A s.heap H locs ∧ lv_has ls 10 [(8, .int (nI c)), (7, .int x), (6, .int (nI (s9 * 15))), (0, .ref a0), (1, .int (nI n)), (2, .int (nI ll)), (3, .int pen), (4, .int (nI s9)), (5, .int (nI d))]) ?_ _ ⟨(s9 + ll), _, rfl, Nat.le_refl _, Or.inr rfl, by rw [Nat.sub_self]; rfl, hP, hD, hS, lv_sub hl [0, 1, 2, 3, 4, 5, 6, 7, 8] rfl⟩
            rintro d_2 H locs ls ⟨c, x, hd_3, hc, hc2, hxv, hP, hD, hS, hl⟩ ih_1
            refine lv_iload hx hb dX5_leastFrom_51 (lv_at hl 0 rfl) ?_
            refine lv_iload_n hx hb dX5_leastFrom_53 rfl (lv_at hl 4 rfl) ?_
            refine lv_iload_n hx hb dX5_leastFrom_54 rfl (lv_at hl 5 rfl) ?_
            refine lv_isub hx hb dX5_leastFrom_55 ?_
            refine wt_i (rfl) ?_
            refine lv_icmp_gt (tgt := 99) hx hb dX5_leastFrom_56 (by decide) (fun c56 => ?_) (fun c56 => ?_)
            · skip
              have c56 : (n : Int) - ll < c := by rw [ki_lt, pk_sub_toInt (by omega) (by omega), nI_toInt (by omega)] at c56; exact c56
              have ex : c - (s9 + ll) = n - ll + 1 - (s9 + ll) := by omega
              rw [ex] at hxv
              refine lv_iload hx hb dX5_leastFrom_99 (lv_at hl 1 rfl) ?_
              exact kri hx hb hr hlocks hP hK hD hS () (hxv) [0] (by decide +kernel) rfl dX5_leastFrom_101
            · skip
              have c56 : (c : Int) ≤ (n : Int) - ll := by rw [ki_lt, pk_sub_toInt (by omega) (by omega), nI_toInt (by omega)] at c56; omega
              refine lv_aload_n hx hb dX5_leastFrom_59 rfl (lv_at hl 3 rfl) ?_
              refine lv_iload hx hb dX5_leastFrom_60 (lv_at hl 2 rfl) ?_
              refine lv_iload hx hb dX5_leastFrom_62 (lv_at hl 0 rfl) ?_
              refine lv_iadd hx hb dX5_leastFrom_64 ?_
              refine wt_i (nI_add _ _) ?_
              refine va_iald (D := D) hx hb hK hP 0 0 rfl rfl (vp_in_nI (by omega) (by decide)) dX5_leastFrom_65 ?_
              refine wt_i (by rw [nI_clamp (n := ((s9 * 15) + c)) (by omega)]) ?_
              refine lv_iload_n hx hb dX5_leastFrom_66 rfl (lv_at hl 6 rfl) ?_
              refine lv_iadd hx hb dX5_leastFrom_67 ?_
              refine lv_aload_n hx hb dX5_leastFrom_68 rfl (lv_at hl 3 rfl) ?_
              refine lv_iload_n hx hb dX5_leastFrom_69 rfl (lv_at hl 4 rfl) ?_
              refine lv_iload_n hx hb dX5_leastFrom_70 rfl (lv_at hl 5 rfl) ?_
              refine lv_iload_n hx hb dX5_leastFrom_71 rfl (lv_at hl 6 rfl) ?_
              refine lv_iload hx hb dX5_leastFrom_72 (lv_at hl 0 rfl) ?_
              refine lv_iload hx hb dX5_leastFrom_74 (lv_at hl 8 rfl) ?_
              refine lv_iconst (v := nI 1) hx hb dX5_leastFrom_76 (by decide) ?_
              refine lv_iadd hx hb dX5_leastFrom_77 ?_
              refine wt_i (nI_add _ _) ?_
              refine kci (wr := []) (pre := [(a0, .inl (cI, 210, .inl f))]) (va_runS (As := [.ref a0, .int (nI n), .int (nI ll), .int pen, .int (nI c), .int (nI (d + 1))]) (rest := [.int ((f ((s9 * 15) + c)) + pen)]) ⟨hx, hb, hml, hown, hts⟩ (ih H.size c (d + 1) (by omega) (by omega) (by omega)) (va_cwS 6 hts gX5_leastFrom_X5_leastFrom rfl rfl rfl (by decide +kernel) ⟨Nat.le_refl _, by show 8 + (10 + 11) + (40 * k9 + 20) ≤ 40 * (k9 + 1) + 20; omega⟩) (kpreS hK hP hD [0] (by decide +kernel) rfl) rfl rfl hl.1 rfl (lv_room (Nat.le_of_ble_eq_true rfl)) dX5_leastFrom_78 ⟨Nat.zero_le _, Nat.zero_le _⟩) hP hD hS hA [0] [] rfl rfl (by decide +kernel) (by decide +kernel) (fun r_4 _ H locs hw hP hD hS => ?_)
              have hP : va_P D vwCl [(a0, .inl (cI, 210, .inl f))] H := hP
              have hD : va_D A [(a0, .inl (cI, 210, .inl f))] := hD
              have hr9 : r_4 = ktry (fun s e => f (s * 15 + e)) n ll pen k9 c := hw
              refine wt_i hr9 ?_
              refine lv_iadd hx hb dX5_leastFrom_81 ?_
              refine lv_istore (lv' := [(9, .int (((f ((s9 * 15) + c)) + pen) + (ktry (fun s e => f (s * 15 + e)) n ll pen k9 c))), (8, .int (nI c)), (7, .int x), (6, .int (nI (s9 * 15))), (0, .ref a0), (1, .int (nI n)), (2, .int (nI ll)), (3, .int pen), (4, .int (nI s9)), (5, .int (nI d))]) hx hb dX5_leastFrom_82 hl (by decide) rfl (fun ls hl => ?_)
              refine lv_iload hx hb dX5_leastFrom_84 (lv_at hl 2 rfl) ?_
              refine lv_iload hx hb dX5_leastFrom_86 (lv_at hl 0 rfl) ?_
              refine va_mmin hx hb (hml.trans hl.1.symm) hown (hts (.methodLink RX5 36 Lib.Math.min.name) (by decide +kernel)) (hts (.static Lib.Math.min.name) (by decide +kernel)) (hts (.initialized "java/lang/Math") (by decide +kernel)) (hts (.code Lib.Math.min.name Lib.Math.min.code 2 (some .int)) (by decide +kernel)) (Nat.le_of_ble_eq_true rfl) (Nat.le_of_ble_eq_true rfl) (Nat.zero_le _) (Nat.zero_le _) dX5_leastFrom_88 ?_
              refine lv_istore (lv' := [(7, .int (if (((f ((s9 * 15) + c)) + pen) + (ktry (fun s e => f (s * 15 + e)) n ll pen k9 c)) < x then (((f ((s9 * 15) + c)) + pen) + (ktry (fun s e => f (s * 15 + e)) n ll pen k9 c)) else x)), (9, .int (((f ((s9 * 15) + c)) + pen) + (ktry (fun s e => f (s * 15 + e)) n ll pen k9 c))), (8, .int (nI c)), (6, .int (nI (s9 * 15))), (0, .ref a0), (1, .int (nI n)), (2, .int (nI ll)), (3, .int pen), (4, .int (nI s9)), (5, .int (nI d))]) hx hb dX5_leastFrom_91 hl (by decide) rfl (fun ls hl => ?_)
              refine lv_iinc (v := nI (c + 1)) (lv' := [(8, .int (nI (c + 1))), (7, .int (if (((f ((s9 * 15) + c)) + pen) + (ktry (fun s e => f (s * 15 + e)) n ll pen k9 c)) < x then (((f ((s9 * 15) + c)) + pen) + (ktry (fun s e => f (s * 15 + e)) n ll pen k9 c)) else x)), (9, .int (((f ((s9 * 15) + c)) + pen) + (ktry (fun s e => f (s * 15 + e)) n ll pen k9 c))), (6, .int (nI (s9 * 15))), (0, .ref a0), (1, .int (nI n)), (2, .int (nI ll)), (3, .int pen), (4, .int (nI s9)), (5, .int (nI d))]) hx hb dX5_leastFrom_93 hl (k := 2) rfl (by exact nI_add _ 1) (by decide) rfl (fun ls hl => ?_)
              refine lv_goto (tgt := 51) hx hb dX5_leastFrom_96 (by decide) ?_
              exact ih_1 _ (by omega) _ _ _ ⟨(c + 1), _, rfl, by omega, Or.inl (by omega), by rw [show c + 1 - (s9 + ll) = (c - (s9 + ll)) + 1 by omega, ktryTo, show s9 + ll + (c - (s9 + ll)) = c by omega, hxv], hP, hD, hS, lv_sub hl [0, 1, 3, 4, 5, 6, 7, 8, 9] rfl⟩
          · skip
            have c25 := knle (a := d) (b := n) c25 (by omega) (by omega)
            omega

set_option maxHeartbeats 4000000 in
set_option maxRecDepth 100000 in
theorem c_X5_leastOfAll (l : Launch) (D : va_G) (cI cZ cJ : ClassId) (sz : Nat) (h9 ca : Nat) (fc : Nat → Int32) (h0 s0 e0 t0 R1 R2 R3 R4 R5 R6 : Nat) (ll : Nat) (pen : Int32) (found : Nat) (b0 : Nat) (m : Nat) (sp : Int32) (f4 : Nat → Int32) (n0 n1 : Nat) (n : Nat) (v hf : Nat → Int32) (es er1 er2 eq : Nat) (len : Nat) (mid : Int32) (aa : Nat) (ad : Nat → Int32) (hn : n ≤ 14) (hn1 : 1 ≤ n) (hbit : ∀ k, kbit (hf k)) (hl1 : 1 ≤ ll) (hl2 : ll ≤ 10) : Met l yX5_leastOfAll wsX5_leastOfAll ({ frames := 20, cells := 0, slots := 0, locals := 700 }) (va_Pc [.ref h9, .int (nI n)] (kPre D (tyA cI cZ cJ) sz [(h9, .inr (5, [.ref h0, .ref ca])), (ca, .inl (cI, 210, .inl fc)), (h0, .inr (2, [.ref s0, .ref e0, .ref t0, .int (nI ll), .int pen, .ref R1, .ref R2, .ref R3, .ref R4, .ref R5, .ref R6, .int (nI found)])), (t0, .inr (4, [.ref b0, .int (nI m), .int sp])), (b0, .inl (cI, 60, .inl f4)), (s0, .inr (3, [.ref n0, .ref n1, .int (nI n)])), (n0, .inl (cI, 60, .inl v)), (n1, .inl (cZ, 60, .inl hf)), (e0, .inr (1, [.ref es, .ref er1, .ref er2, .ref eq, .int (nI len), .int mid])), (er2, .inr (0, [.ref aa])), (aa, .inl (cI, 61, .inl ad))])) (va_Qi (fun (r : Int32) (u : Nat × Int32 × (Nat → Int32) × (Nat → Int32)) => match u with | (m2, sp2, f42, fc2) => r = ktry (kCost ad hf) n ll pen n 0) (kPost D (tyA cI cZ cJ) (va_A [(h9, .inr (5, [.ref h0, .ref ca])), (ca, .inl (cI, 210, .inl fc)), (h0, .inr (2, [.ref s0, .ref e0, .ref t0, .int (nI ll), .int pen, .ref R1, .ref R2, .ref R3, .ref R4, .ref R5, .ref R6, .int (nI found)])), (t0, .inr (4, [.ref b0, .int (nI m), .int sp])), (b0, .inl (cI, 60, .inl f4)), (s0, .inr (3, [.ref n0, .ref n1, .int (nI n)])), (n0, .inl (cI, 60, .inl v)), (n1, .inl (cZ, 60, .inl hf)), (e0, .inr (1, [.ref es, .ref er1, .ref er2, .ref eq, .int (nI len), .int mid])), (er2, .inr (0, [.ref aa])), (aa, .inl (cI, 61, .inl ad))] sz) (fun (u : Nat × Int32 × (Nat → Int32) × (Nat → Int32)) => match u with | (m2, sp2, f42, fc2) => [(h9, .inr (5, [.ref h0, .ref ca])), (ca, .inl (cI, 210, .inl fc2)), (h0, .inr (2, [.ref s0, .ref e0, .ref t0, .int (nI ll), .int pen, .ref R1, .ref R2, .ref R3, .ref R4, .ref R5, .ref R6, .int (nI found)])), (t0, .inr (4, [.ref b0, .int (nI m2), .int sp2])), (b0, .inl (cI, 60, .inl f42)), (s0, .inr (3, [.ref n0, .ref n1, .int (nI n)])), (n0, .inl (cI, 60, .inl v)), (n1, .inl (cZ, 60, .inl hf)), (e0, .inr (1, [.ref es, .ref er1, .ref er2, .ref eq, .int (nI len), .int mid])), (er2, .inr (0, [.ref aa])), (aa, .inl (cI, 61, .inl ad))])) (va_A [(h9, .inr (5, [.ref h0, .ref ca])), (ca, .inl (cI, 210, .inl fc)), (h0, .inr (2, [.ref s0, .ref e0, .ref t0, .int (nI ll), .int pen, .ref R1, .ref R2, .ref R3, .ref R4, .ref R5, .ref R6, .int (nI found)])), (t0, .inr (4, [.ref b0, .int (nI m), .int sp])), (b0, .inl (cI, 60, .inl f4)), (s0, .inr (3, [.ref n0, .ref n1, .int (nI n)])), (n0, .inl (cI, 60, .inl v)), (n1, .inl (cZ, 60, .inl hf)), (e0, .inr (1, [.ref es, .ref er1, .ref er2, .ref eq, .int (nI len), .int mid])), (er2, .inr (0, [.ref aa])), (aa, .inl (cI, 61, .inl ad))] sz)) 0 0 (va_A [(h9, .inr (5, [.ref h0, .ref ca])), (ca, .inl (cI, 210, .inl fc)), (h0, .inr (2, [.ref s0, .ref e0, .ref t0, .int (nI ll), .int pen, .ref R1, .ref R2, .ref R3, .ref R4, .ref R5, .ref R6, .int (nI found)])), (t0, .inr (4, [.ref b0, .int (nI m), .int sp])), (b0, .inl (cI, 60, .inl f4)), (s0, .inr (3, [.ref n0, .ref n1, .int (nI n)])), (n0, .inl (cI, 60, .inl v)), (n1, .inl (cZ, 60, .inl hf)), (e0, .inr (1, [.ref es, .ref er1, .ref er2, .ref eq, .int (nI len), .int mid])), (er2, .inr (0, [.ref aa])), (aa, .inl (cI, 61, .inl ad))] sz) := by
  refine kOfW (cc := cX5_leastOfAll) (maxL := 4) (ret := (some .int)) (fun A => va_Qi (fun (r : Int32) (u : Nat × Int32 × (Nat → Int32) × (Nat → Int32)) => match u with | (m2, sp2, f42, fc2) => r = ktry (kCost ad hf) n ll pen n 0) (kPost D (tyA cI cZ cJ) (A) (fun (u : Nat × Int32 × (Nat → Int32) × (Nat → Int32)) => match u with | (m2, sp2, f42, fc2) => [(h9, .inr (5, [.ref h0, .ref ca])), (ca, .inl (cI, 210, .inl fc2)), (h0, .inr (2, [.ref s0, .ref e0, .ref t0, .int (nI ll), .int pen, .ref R1, .ref R2, .ref R3, .ref R4, .ref R5, .ref R6, .int (nI found)])), (t0, .inr (4, [.ref b0, .int (nI m2), .int sp2])), (b0, .inl (cI, 60, .inl f42)), (s0, .inr (3, [.ref n0, .ref n1, .int (nI n)])), (n0, .inl (cI, 60, .inl v)), (n1, .inl (cZ, 60, .inl hf)), (e0, .inr (1, [.ref es, .ref er1, .ref er2, .ref eq, .int (nI len), .int mid])), (er2, .inr (0, [.ref aa])), (aa, .inl (cI, 61, .inl ad))])) (A)) (by decide) rfl (Nat.le_of_ble_eq_true rfl) ?_
  intro p_ e_ s m_ below_ meth_ c_ A ls hx hb hr hml hts hown hlocks hin hA hP hK hD hsz hl
  have hS : va_S A s.heap s.heap [] := va_S.rf
  have hl : lv_has ls 4 [(0, .ref h9), (1, .int (nI n))] := hl
  have hinX5 : ∀ w ∈ wsX50, w ∈ wsX5_leastOfAll := fun w h => List.mem_cons_of_mem _ (List.mem_append_left _ (List.mem_append_left _ (List.mem_append_left _ (List.mem_append_left _ (List.mem_append_left _ (List.mem_append_right _ h))))))
  refine lv_iload_n hx hb dX5_leastOfAll_0 rfl (lv_at hl 1 rfl) ?_
  refine lv_iconst (v := nI 1) hx hb dX5_leastOfAll_1 (by decide) ?_
  refine lv_icmp_lt (tgt := 11) hx hb dX5_leastOfAll_2 (by decide) (fun c2 => ?_) (fun c2 => ?_)
  · skip
    have c2 := klt (a := n) (b := 1) c2 (by omega) (by omega)
    omega
  · skip
    have c2 := knlt (a := n) (b := 1) c2 (by omega) (by omega)
    refine lv_iload_n hx hb dX5_leastOfAll_5 rfl (lv_at hl 1 rfl) ?_
    refine lv_bipush (v := nI 14) hx hb dX5_leastOfAll_6 (by decide) ?_
    refine lv_icmp_le (tgt := 13) hx hb dX5_leastOfAll_8 (by decide) (fun c8 => ?_) (fun c8 => ?_)
    · skip
      have c8 := kle (a := n) (b := 14) c8 (by omega) (by omega)
      refine lv_iconst (v := nI 0) hx hb dX5_leastOfAll_13 (by decide) ?_
      refine lv_istore_n (lv' := [(2, .int (nI 0)), (0, .ref h9), (1, .int (nI n))]) hx hb dX5_leastOfAll_14 rfl hl (by decide) rfl (fun ls hl => ?_)
      refine wl_loop (fun (d9 : Nat) (H : Heap) (locs : List Loc) (ls : Array Slot) => ∃ (s9 : Nat) (m : Nat) (sp : Int32) (f4 : Nat → Int32) (g : Nat → Int32), d9 = n - s9 ∧ (s9 ≤ n) ∧ (∀ a b, a < s9 → a < b → b ≤ n → g (a * 15 + b) = kCost ad hf a b) ∧ va_P D vwCl [(h9, .inr (5, [.ref h0, .ref ca])), (ca, .inl (cI, 210, .inl g)), (h0, .inr (2, [.ref s0, .ref e0, .ref t0, .int (nI ll), .int pen, .ref R1, .ref R2, .ref R3, .ref R4, .ref R5, .ref R6, .int (nI found)])), (t0, .inr (4, [.ref b0, .int (nI m), .int sp])), (b0, .inl (cI, 60, .inl f4)), (s0, .inr (3, [.ref n0, .ref n1, .int (nI n)])), (n0, .inl (cI, 60, .inl v)), (n1, .inl (cZ, 60, .inl hf)), (e0, .inr (1, [.ref es, .ref er1, .ref er2, .ref eq, .int (nI len), .int mid])), (er2, .inr (0, [.ref aa])), (aa, .inl (cI, 61, .inl ad))] H ∧ va_D A [(h9, .inr (5, [.ref h0, .ref ca])), (ca, .inl (cI, 210, .inl g)), (h0, .inr (2, [.ref s0, .ref e0, .ref t0, .int (nI ll), .int pen, .ref R1, .ref R2, .ref R3, .ref R4, .ref R5, .ref R6, .int (nI found)])), (t0, .inr (4, [.ref b0, .int (nI m), .int sp])), (b0, .inl (cI, 60, .inl f4)), (s0, .inr (3, [.ref n0, .ref n1, .int (nI n)])), (n0, .inl (cI, 60, .inl v)), (n1, .inl (cZ, 60, .inl hf)), (e0, .inr (1, [.ref es, .ref er1, .ref er2, .ref eq, .int (nI len), .int mid])), (er2, .inr (0, [.ref aa])), (aa, .inl (cI, 61, .inl ad))] ∧ va_S A s.heap H locs ∧ lv_has ls 4 [(2, .int (nI s9)), (0, .ref h9), (1, .int (nI n))]) ?_ _ ⟨0, _, _, _, _, rfl, Nat.zero_le _, fun a b q => absurd q (Nat.not_lt_zero a), hP, hD, hS, lv_sub hl [0, 1, 2] rfl⟩
      rintro d_2 H locs ls ⟨s9, m, sp, f4, g, hd_3, hs9, h1, hP, hD, hS, hl⟩ ih_1
      refine lv_iload_n hx hb dX5_leastOfAll_15 rfl (lv_at hl 0 rfl) ?_
      refine lv_iload_n hx hb dX5_leastOfAll_16 rfl (lv_at hl 2 rfl) ?_
      refine lv_icmp_ge (tgt := 61) hx hb dX5_leastOfAll_17 (by decide) (fun c17 => ?_) (fun c17 => ?_)
      · skip
        have c17 := kle (a := n) (b := s9) c17 (by omega) (by omega)
        have esn : s9 = n := by omega
        rw [esn] at h1
        refine lv_aload_n hx hb dX5_leastOfAll_61 rfl (lv_at hl 1 rfl) ?_
        refine va_get (D := D) (ci := 5) (v := .ref ca) (C := RX5) (T := TX5) (N := 2) hx hb hts hinX5 hown hK hP 0 rfl rfl 1 (by decide) (hts (.fieldLink RX5 11 "SeriesWatcher$Trial" "costs" "[I") (by decide +kernel)) (fun _ h9 => h9) rfl dX5_leastOfAll_62 ?_
        refine lv_iload_n hx hb dX5_leastOfAll_65 rfl (lv_at hl 2 rfl) ?_
        refine lv_aload_n hx hb dX5_leastOfAll_66 rfl (lv_at hl 1 rfl) ?_
        refine va_get (D := D) (ci := 5) (v := .ref h0) (C := RX5) (T := TX5) (N := 2) hx hb hts hinX5 hown hK hP 0 rfl rfl 0 (by decide) (hts (.fieldLink RX5 15 "SeriesWatcher$Trial" "division" "LSeriesWatcher$Segments;") (by decide +kernel)) (fun _ h9 => h9) rfl dX5_leastOfAll_67 ?_
        refine kci (wr := [(h9, .inr (5, [.ref h0, .ref ca])), (ca, .inl (cI, 210, .inl g)), (t0, .inr (4, [.ref b0, .int (nI m), .int sp])), (b0, .inl (cI, 60, .inl f4)), (s0, .inr (3, [.ref n0, .ref n1, .int (nI n)])), (n0, .inl (cI, 60, .inl v)), (n1, .inl (cZ, 60, .inl hf)), (e0, .inr (1, [.ref es, .ref er1, .ref er2, .ref eq, .int (nI len), .int mid])), (er2, .inr (0, [.ref aa])), (aa, .inl (cI, 61, .inl ad))]) (pre := [(h0, .inr (2, [.ref s0, .ref e0, .ref t0, .int (nI ll), .int pen, .ref R1, .ref R2, .ref R3, .ref R4, .ref R5, .ref R6, .int (nI found)]))]) (va_runV (As := []) (rest := [.int (nI n), .ref ca]) ⟨hx, hb, hml, hown, hts⟩ (c_X2_leastLength l D cI cZ cJ H.size h0 s0 e0 t0 R1 R2 R3 R4 R5 R6 ll pen found ) (cwV 0 hts gX5_leastOfAll_X2_leastLength rfl rfl rfl (by decide +kernel) ⟨Nat.le_of_ble_eq_true rfl, Nat.le_of_ble_eq_true rfl⟩) (kpreV hK hP hD (ci := 2) (q0 := 2) rfl rfl [2] (by decide +kernel) rfl) rfl rfl hl.1 rfl (lv_room (Nat.le_of_ble_eq_true rfl)) dX5_leastOfAll_70 ⟨Nat.zero_le _, Nat.zero_le _⟩) hP hD hS hA [2] [0, 1, 3, 4, 5, 6, 7, 8, 9, 10] rfl rfl (by decide +kernel) (by decide +kernel) (fun r_4 _ H locs hw hP hD hS => ?_)
        have hP : va_P D vwCl [(h9, .inr (5, [.ref h0, .ref ca])), (ca, .inl (cI, 210, .inl g)), (t0, .inr (4, [.ref b0, .int (nI m), .int sp])), (b0, .inl (cI, 60, .inl f4)), (s0, .inr (3, [.ref n0, .ref n1, .int (nI n)])), (n0, .inl (cI, 60, .inl v)), (n1, .inl (cZ, 60, .inl hf)), (e0, .inr (1, [.ref es, .ref er1, .ref er2, .ref eq, .int (nI len), .int mid])), (er2, .inr (0, [.ref aa])), (aa, .inl (cI, 61, .inl ad)), (h0, .inr (2, [.ref s0, .ref e0, .ref t0, .int (nI ll), .int pen, .ref R1, .ref R2, .ref R3, .ref R4, .ref R5, .ref R6, .int (nI found)]))] H := hP
        have hD : va_D A [(h9, .inr (5, [.ref h0, .ref ca])), (ca, .inl (cI, 210, .inl g)), (t0, .inr (4, [.ref b0, .int (nI m), .int sp])), (b0, .inl (cI, 60, .inl f4)), (s0, .inr (3, [.ref n0, .ref n1, .int (nI n)])), (n0, .inl (cI, 60, .inl v)), (n1, .inl (cZ, 60, .inl hf)), (e0, .inr (1, [.ref es, .ref er1, .ref er2, .ref eq, .int (nI len), .int mid])), (er2, .inr (0, [.ref aa])), (aa, .inl (cI, 61, .inl ad)), (h0, .inr (2, [.ref s0, .ref e0, .ref t0, .int (nI ll), .int pen, .ref R1, .ref R2, .ref R3, .ref R4, .ref R5, .ref R6, .int (nI found)]))] := hD
        have hr9 : r_4 = nI ll := hw
        refine wt_i hr9 ?_
        refine lv_aload_n hx hb dX5_leastOfAll_73 rfl (lv_at hl 1 rfl) ?_
        refine va_get (D := D) (ci := 5) (v := .ref h0) (C := RX5) (T := TX5) (N := 2) hx hb hts hinX5 hown hK hP 0 rfl rfl 0 (by decide) (hts (.fieldLink RX5 15 "SeriesWatcher$Trial" "division" "LSeriesWatcher$Segments;") (by decide +kernel)) (fun _ h9 => h9) rfl dX5_leastOfAll_74 ?_
        refine kci (wr := [(h9, .inr (5, [.ref h0, .ref ca])), (ca, .inl (cI, 210, .inl g)), (t0, .inr (4, [.ref b0, .int (nI m), .int sp])), (b0, .inl (cI, 60, .inl f4)), (s0, .inr (3, [.ref n0, .ref n1, .int (nI n)])), (n0, .inl (cI, 60, .inl v)), (n1, .inl (cZ, 60, .inl hf)), (e0, .inr (1, [.ref es, .ref er1, .ref er2, .ref eq, .int (nI len), .int mid])), (er2, .inr (0, [.ref aa])), (aa, .inl (cI, 61, .inl ad))]) (pre := [(h0, .inr (2, [.ref s0, .ref e0, .ref t0, .int (nI ll), .int pen, .ref R1, .ref R2, .ref R3, .ref R4, .ref R5, .ref R6, .int (nI found)]))]) (va_runV (As := []) (rest := [.int (nI ll), .int (nI n), .ref ca]) ⟨hx, hb, hml, hown, hts⟩ (c_X2_penaltyOfCut l D cI cZ cJ H.size h0 s0 e0 t0 R1 R2 R3 R4 R5 R6 ll pen found ) (cwV 0 hts gX5_leastOfAll_X2_penaltyOfCut rfl rfl rfl (by decide +kernel) ⟨Nat.le_of_ble_eq_true rfl, Nat.le_of_ble_eq_true rfl⟩) (kpreV hK hP hD (ci := 2) (q0 := 10) rfl rfl [10] (by decide +kernel) rfl) rfl rfl hl.1 rfl (lv_room (Nat.le_of_ble_eq_true rfl)) dX5_leastOfAll_77 ⟨Nat.zero_le _, Nat.zero_le _⟩) hP hD hS hA [10] [0, 1, 2, 3, 4, 5, 6, 7, 8, 9] rfl rfl (by decide +kernel) (by decide +kernel) (fun r_6 _ H locs hw hP hD hS => ?_)
        have hP : va_P D vwCl [(h9, .inr (5, [.ref h0, .ref ca])), (ca, .inl (cI, 210, .inl g)), (t0, .inr (4, [.ref b0, .int (nI m), .int sp])), (b0, .inl (cI, 60, .inl f4)), (s0, .inr (3, [.ref n0, .ref n1, .int (nI n)])), (n0, .inl (cI, 60, .inl v)), (n1, .inl (cZ, 60, .inl hf)), (e0, .inr (1, [.ref es, .ref er1, .ref er2, .ref eq, .int (nI len), .int mid])), (er2, .inr (0, [.ref aa])), (aa, .inl (cI, 61, .inl ad)), (h0, .inr (2, [.ref s0, .ref e0, .ref t0, .int (nI ll), .int pen, .ref R1, .ref R2, .ref R3, .ref R4, .ref R5, .ref R6, .int (nI found)]))] H := hP
        have hD : va_D A [(h9, .inr (5, [.ref h0, .ref ca])), (ca, .inl (cI, 210, .inl g)), (t0, .inr (4, [.ref b0, .int (nI m), .int sp])), (b0, .inl (cI, 60, .inl f4)), (s0, .inr (3, [.ref n0, .ref n1, .int (nI n)])), (n0, .inl (cI, 60, .inl v)), (n1, .inl (cZ, 60, .inl hf)), (e0, .inr (1, [.ref es, .ref er1, .ref er2, .ref eq, .int (nI len), .int mid])), (er2, .inr (0, [.ref aa])), (aa, .inl (cI, 61, .inl ad)), (h0, .inr (2, [.ref s0, .ref e0, .ref t0, .int (nI ll), .int pen, .ref R1, .ref R2, .ref R3, .ref R4, .ref R5, .ref R6, .int (nI found)]))] := hD
        have hr9 : r_6 = pen := hw
        refine wt_i hr9 ?_
        refine lv_iconst (v := nI 0) hx hb dX5_leastOfAll_80 (by decide) ?_
        refine lv_iconst (v := nI 0) hx hb dX5_leastOfAll_81 (by decide) ?_
        refine kci (wr := [(h9, .inr (5, [.ref h0, .ref ca])), (t0, .inr (4, [.ref b0, .int (nI m), .int sp])), (b0, .inl (cI, 60, .inl f4)), (s0, .inr (3, [.ref n0, .ref n1, .int (nI n)])), (n0, .inl (cI, 60, .inl v)), (n1, .inl (cZ, 60, .inl hf)), (e0, .inr (1, [.ref es, .ref er1, .ref er2, .ref eq, .int (nI len), .int mid])), (er2, .inr (0, [.ref aa])), (aa, .inl (cI, 61, .inl ad)), (h0, .inr (2, [.ref s0, .ref e0, .ref t0, .int (nI ll), .int pen, .ref R1, .ref R2, .ref R3, .ref R4, .ref R5, .ref R6, .int (nI found)]))]) (pre := [(ca, .inl (cI, 210, .inl g))]) (va_runS (As := [.ref ca, .int (nI n), .int (nI ll), .int pen, .int (nI 0), .int (nI 0)]) (rest := []) ⟨hx, hb, hml, hown, hts⟩ (c_X5_leastFrom l D cI cZ cJ ca n ll pen _ hn hl1 hl2 14 H.size 0 0 (by omega) (Nat.le_refl 0) (by omega)) (va_cwS 6 hts gX5_leastOfAll_X5_leastFrom rfl rfl rfl (by decide +kernel) ⟨Nat.le_of_ble_eq_true rfl, Nat.le_of_ble_eq_true rfl⟩) (kpreS hK hP hD [1] (by decide +kernel) rfl) rfl rfl hl.1 rfl (lv_room (Nat.le_of_ble_eq_true rfl)) dX5_leastOfAll_82 ⟨Nat.zero_le _, Nat.zero_le _⟩) hP hD hS hA [1] [0, 2, 3, 4, 5, 6, 7, 8, 9, 10] rfl rfl (by decide +kernel) (by decide +kernel) (fun r_8 _ H locs hw hP hD hS => ?_)
        have hP : va_P D vwCl [(h9, .inr (5, [.ref h0, .ref ca])), (t0, .inr (4, [.ref b0, .int (nI m), .int sp])), (b0, .inl (cI, 60, .inl f4)), (s0, .inr (3, [.ref n0, .ref n1, .int (nI n)])), (n0, .inl (cI, 60, .inl v)), (n1, .inl (cZ, 60, .inl hf)), (e0, .inr (1, [.ref es, .ref er1, .ref er2, .ref eq, .int (nI len), .int mid])), (er2, .inr (0, [.ref aa])), (aa, .inl (cI, 61, .inl ad)), (h0, .inr (2, [.ref s0, .ref e0, .ref t0, .int (nI ll), .int pen, .ref R1, .ref R2, .ref R3, .ref R4, .ref R5, .ref R6, .int (nI found)])), (ca, .inl (cI, 210, .inl g))] H := hP
        have hD : va_D A [(h9, .inr (5, [.ref h0, .ref ca])), (t0, .inr (4, [.ref b0, .int (nI m), .int sp])), (b0, .inl (cI, 60, .inl f4)), (s0, .inr (3, [.ref n0, .ref n1, .int (nI n)])), (n0, .inl (cI, 60, .inl v)), (n1, .inl (cZ, 60, .inl hf)), (e0, .inr (1, [.ref es, .ref er1, .ref er2, .ref eq, .int (nI len), .int mid])), (er2, .inr (0, [.ref aa])), (aa, .inl (cI, 61, .inl ad)), (h0, .inr (2, [.ref s0, .ref e0, .ref t0, .int (nI ll), .int pen, .ref R1, .ref R2, .ref R3, .ref R4, .ref R5, .ref R6, .int (nI found)])), (ca, .inl (cI, 210, .inl g))] := hD
        have hr9 : r_8 = ktry (fun s e => g (s * 15 + e)) n ll pen 14 0 := hw
        refine wt_i hr9 ?_
        refine wt_i ((ktry_fuel hl1 14 n 0 (by omega) (by omega) (by omega)).trans (ktry_congr hl1 (fun a b q1 q2 => h1 a b (by omega) q1 q2) n 0 (by omega))) ?_
        exact kri hx hb hr hlocks hP hK hD hS (_, _, _, _) (rfl) [0, 10, 9, 1, 2, 3, 4, 5, 6, 7, 8] (by decide +kernel) rfl dX5_leastOfAll_85
      · skip
        have c17 := knle (a := n) (b := s9) c17 (by omega) (by omega)
        refine lv_iload_n hx hb dX5_leastOfAll_20 rfl (lv_at hl 0 rfl) ?_
        refine lv_iconst (v := nI 1) hx hb dX5_leastOfAll_21 (by decide) ?_
        refine lv_iadd hx hb dX5_leastOfAll_22 ?_
        refine wt_i (nI_add _ _) ?_
        refine lv_istore_n (lv' := [(3, .int (nI (s9 + 1))), (2, .int (nI s9)), (0, .ref h9), (1, .int (nI n))]) hx hb dX5_leastOfAll_23 rfl hl (by decide) rfl (fun ls hl => ?_)
        refine wl_loop (fun (d9 : Nat) (H : Heap) (locs : List Loc) (ls : Array Slot) => ∃ (e : Nat) (m : Nat) (sp : Int32) (f4 : Nat → Int32) (g2 : Nat → Int32), d9 = n + 1 - e ∧ (s9 < e) ∧ (e ≤ n + 1) ∧ (∀ a b, a < s9 → a < b → b ≤ n → g2 (a * 15 + b) = kCost ad hf a b) ∧ (∀ b, s9 < b → b < e → g2 (s9 * 15 + b) = kCost ad hf s9 b) ∧ va_P D vwCl [(h9, .inr (5, [.ref h0, .ref ca])), (ca, .inl (cI, 210, .inl g2)), (h0, .inr (2, [.ref s0, .ref e0, .ref t0, .int (nI ll), .int pen, .ref R1, .ref R2, .ref R3, .ref R4, .ref R5, .ref R6, .int (nI found)])), (t0, .inr (4, [.ref b0, .int (nI m), .int sp])), (b0, .inl (cI, 60, .inl f4)), (s0, .inr (3, [.ref n0, .ref n1, .int (nI n)])), (n0, .inl (cI, 60, .inl v)), (n1, .inl (cZ, 60, .inl hf)), (e0, .inr (1, [.ref es, .ref er1, .ref er2, .ref eq, .int (nI len), .int mid])), (er2, .inr (0, [.ref aa])), (aa, .inl (cI, 61, .inl ad))] H ∧ va_D A [(h9, .inr (5, [.ref h0, .ref ca])), (ca, .inl (cI, 210, .inl g2)), (h0, .inr (2, [.ref s0, .ref e0, .ref t0, .int (nI ll), .int pen, .ref R1, .ref R2, .ref R3, .ref R4, .ref R5, .ref R6, .int (nI found)])), (t0, .inr (4, [.ref b0, .int (nI m), .int sp])), (b0, .inl (cI, 60, .inl f4)), (s0, .inr (3, [.ref n0, .ref n1, .int (nI n)])), (n0, .inl (cI, 60, .inl v)), (n1, .inl (cZ, 60, .inl hf)), (e0, .inr (1, [.ref es, .ref er1, .ref er2, .ref eq, .int (nI len), .int mid])), (er2, .inr (0, [.ref aa])), (aa, .inl (cI, 61, .inl ad))] ∧ va_S A s.heap H locs ∧ lv_has ls 4 [(3, .int (nI e)), (2, .int (nI s9)), (0, .ref h9), (1, .int (nI n))]) ?_ _ ⟨(s9 + 1), _, _, _, _, rfl, by omega, by omega, h1, fun b q1 q2 => absurd q2 (by omega), hP, hD, hS, lv_sub hl [0, 1, 2, 3] rfl⟩
        rintro d_11 H locs ls ⟨e, m, sp, f4, g2, hd_12, he1, he2, h2, h3, hP, hD, hS, hl⟩ ih_10
        refine lv_iload_n hx hb dX5_leastOfAll_24 rfl (lv_at hl 0 rfl) ?_
        refine lv_iload_n hx hb dX5_leastOfAll_25 rfl (lv_at hl 3 rfl) ?_
        refine lv_icmp_gt (tgt := 55) hx hb dX5_leastOfAll_26 (by decide) (fun c26 => ?_) (fun c26 => ?_)
        · skip
          have c26 := klt (a := n) (b := e) c26 (by omega) (by omega)
          refine lv_iinc (v := nI (s9 + 1)) (lv' := [(2, .int (nI (s9 + 1))), (3, .int (nI e)), (0, .ref h9), (1, .int (nI n))]) hx hb dX5_leastOfAll_55 hl (k := 1) rfl (by exact nI_add _ 1) (by decide) rfl (fun ls hl => ?_)
          refine lv_goto (tgt := 15) hx hb dX5_leastOfAll_58 (by decide) ?_
          exact ih_1 _ (by omega) _ _ _ ⟨(s9 + 1), _, _, _, _, rfl, by omega, fun a b q1 q2 q3 => by rcases Nat.eq_or_lt_of_le (Nat.le_of_lt_succ q1) with q | q; (subst q; exact h3 b q2 (by omega)); exact h2 a b q q2 q3, hP, hD, hS, lv_sub hl [0, 2, 3] rfl⟩
        · skip
          have c26 := knlt (a := n) (b := e) c26 (by omega) (by omega)
          refine lv_aload_n hx hb dX5_leastOfAll_29 rfl (lv_at hl 2 rfl) ?_
          refine va_get (D := D) (ci := 5) (v := .ref ca) (C := RX5) (T := TX5) (N := 2) hx hb hts hinX5 hown hK hP 0 rfl rfl 1 (by decide) (hts (.fieldLink RX5 11 "SeriesWatcher$Trial" "costs" "[I") (by decide +kernel)) (fun _ h9 => h9) rfl dX5_leastOfAll_30 ?_
          refine lv_iload_n hx hb dX5_leastOfAll_33 rfl (lv_at hl 1 rfl) ?_
          refine lv_bipush (v := nI 15) hx hb dX5_leastOfAll_34 (by decide) ?_
          refine lv_imul hx hb dX5_leastOfAll_36 ?_
          refine wt_i (pk_mul _ _) ?_
          refine lv_iload_n hx hb dX5_leastOfAll_37 rfl (lv_at hl 0 rfl) ?_
          refine lv_iadd hx hb dX5_leastOfAll_38 ?_
          refine wt_i (nI_add _ _) ?_
          refine lv_aload_n hx hb dX5_leastOfAll_39 rfl (lv_at hl 2 rfl) ?_
          refine va_get (D := D) (ci := 5) (v := .ref h0) (C := RX5) (T := TX5) (N := 2) hx hb hts hinX5 hown hK hP 0 rfl rfl 0 (by decide) (hts (.fieldLink RX5 15 "SeriesWatcher$Trial" "division" "LSeriesWatcher$Segments;") (by decide +kernel)) (fun _ h9 => h9) rfl dX5_leastOfAll_40 ?_
          refine lv_iload_n hx hb dX5_leastOfAll_43 rfl (lv_at hl 1 rfl) ?_
          refine lv_iload_n hx hb dX5_leastOfAll_44 rfl (lv_at hl 0 rfl) ?_
          refine kci (wr := [(h9, .inr (5, [.ref h0, .ref ca])), (ca, .inl (cI, 210, .inl g2))]) (pre := [(h0, .inr (2, [.ref s0, .ref e0, .ref t0, .int (nI ll), .int pen, .ref R1, .ref R2, .ref R3, .ref R4, .ref R5, .ref R6, .int (nI found)])), (t0, .inr (4, [.ref b0, .int (nI m), .int sp])), (b0, .inl (cI, 60, .inl f4)), (s0, .inr (3, [.ref n0, .ref n1, .int (nI n)])), (n0, .inl (cI, 60, .inl v)), (n1, .inl (cZ, 60, .inl hf)), (e0, .inr (1, [.ref es, .ref er1, .ref er2, .ref eq, .int (nI len), .int mid])), (er2, .inr (0, [.ref aa])), (aa, .inl (cI, 61, .inl ad))]) (va_runV (As := [.int (nI s9), .int (nI e)]) (rest := [.int (nI ((s9 * 15) + e)), .ref ca]) ⟨hx, hb, hml, hown, hts⟩ (c_X2_costBetween l D cI cZ cJ H.size h0 s0 e0 t0 R1 R2 R3 R4 R5 R6 ll pen found b0 m sp f4 n0 n1 n v hf es er1 er2 eq len mid aa ad s9 e (by omega) (by first | assumption | omega) (by omega) (by omega)) (cwV 2 hts gX5_leastOfAll_X2_costBetween rfl rfl rfl (by decide +kernel) ⟨Nat.le_of_ble_eq_true rfl, Nat.le_of_ble_eq_true rfl⟩) (kpreV hK hP hD (ci := 2) (q0 := 2) rfl rfl [2, 3, 4, 5, 6, 7, 8, 9, 10] (by decide +kernel) rfl) rfl rfl hl.1 rfl (lv_room (Nat.le_of_ble_eq_true rfl)) dX5_leastOfAll_45 ⟨Nat.zero_le _, Nat.zero_le _⟩) hP hD hS hA [2, 3, 4, 5, 6, 7, 8, 9, 10] [0, 1] rfl rfl (by decide +kernel) (by decide +kernel) (fun r_16 u9 H locs hw hP hD hS => ?_)
          obtain ⟨m2_13, sp2_14, f42_15⟩ := u9
          have hP : va_P D vwCl [(h9, .inr (5, [.ref h0, .ref ca])), (ca, .inl (cI, 210, .inl g2)), (h0, .inr (2, [.ref s0, .ref e0, .ref t0, .int (nI ll), .int pen, .ref R1, .ref R2, .ref R3, .ref R4, .ref R5, .ref R6, .int (nI found)])), (t0, .inr (4, [.ref b0, .int (nI m2_13), .int sp2_14])), (b0, .inl (cI, 60, .inl f42_15)), (s0, .inr (3, [.ref n0, .ref n1, .int (nI n)])), (n0, .inl (cI, 60, .inl v)), (n1, .inl (cZ, 60, .inl hf)), (e0, .inr (1, [.ref es, .ref er1, .ref er2, .ref eq, .int (nI len), .int mid])), (er2, .inr (0, [.ref aa])), (aa, .inl (cI, 61, .inl ad))] H := hP
          have hD : va_D A [(h9, .inr (5, [.ref h0, .ref ca])), (ca, .inl (cI, 210, .inl g2)), (h0, .inr (2, [.ref s0, .ref e0, .ref t0, .int (nI ll), .int pen, .ref R1, .ref R2, .ref R3, .ref R4, .ref R5, .ref R6, .int (nI found)])), (t0, .inr (4, [.ref b0, .int (nI m2_13), .int sp2_14])), (b0, .inl (cI, 60, .inl f42_15)), (s0, .inr (3, [.ref n0, .ref n1, .int (nI n)])), (n0, .inl (cI, 60, .inl v)), (n1, .inl (cZ, 60, .inl hf)), (e0, .inr (1, [.ref es, .ref er1, .ref er2, .ref eq, .int (nI len), .int mid])), (er2, .inr (0, [.ref aa])), (aa, .inl (cI, 61, .inl ad))] := hD
          have hr9 : r_16 = kCost ad hf s9 e := hw
          refine wt_i hr9 ?_
          refine va_iast (D := D) hx hb hK hP hD hS 1 0 rfl rfl (vp_in_nI (by omega) (by decide)) dX5_leastOfAll_48 (fun H locs hP hD hS => ?_)
          rw [nI_clamp (n := ((s9 * 15) + e)) (by omega)] at hP hD
          have hP : va_P D vwCl [(h9, .inr (5, [.ref h0, .ref ca])), (ca, .inl (cI, 210, .inl (upd g2 ((s9 * 15) + e) (kCost ad hf s9 e)))), (h0, .inr (2, [.ref s0, .ref e0, .ref t0, .int (nI ll), .int pen, .ref R1, .ref R2, .ref R3, .ref R4, .ref R5, .ref R6, .int (nI found)])), (t0, .inr (4, [.ref b0, .int (nI m2_13), .int sp2_14])), (b0, .inl (cI, 60, .inl f42_15)), (s0, .inr (3, [.ref n0, .ref n1, .int (nI n)])), (n0, .inl (cI, 60, .inl v)), (n1, .inl (cZ, 60, .inl hf)), (e0, .inr (1, [.ref es, .ref er1, .ref er2, .ref eq, .int (nI len), .int mid])), (er2, .inr (0, [.ref aa])), (aa, .inl (cI, 61, .inl ad))] H := hP
          have hD : va_D A [(h9, .inr (5, [.ref h0, .ref ca])), (ca, .inl (cI, 210, .inl (upd g2 ((s9 * 15) + e) (kCost ad hf s9 e)))), (h0, .inr (2, [.ref s0, .ref e0, .ref t0, .int (nI ll), .int pen, .ref R1, .ref R2, .ref R3, .ref R4, .ref R5, .ref R6, .int (nI found)])), (t0, .inr (4, [.ref b0, .int (nI m2_13), .int sp2_14])), (b0, .inl (cI, 60, .inl f42_15)), (s0, .inr (3, [.ref n0, .ref n1, .int (nI n)])), (n0, .inl (cI, 60, .inl v)), (n1, .inl (cZ, 60, .inl hf)), (e0, .inr (1, [.ref es, .ref er1, .ref er2, .ref eq, .int (nI len), .int mid])), (er2, .inr (0, [.ref aa])), (aa, .inl (cI, 61, .inl ad))] := hD
          refine lv_iinc (v := nI (e + 1)) (lv' := [(3, .int (nI (e + 1))), (2, .int (nI s9)), (0, .ref h9), (1, .int (nI n))]) hx hb dX5_leastOfAll_49 hl (k := 0) rfl (by exact nI_add _ 1) (by decide) rfl (fun ls hl => ?_)
          refine lv_goto (tgt := 24) hx hb dX5_leastOfAll_52 (by decide) ?_
          exact ih_10 _ (by omega) _ _ _ ⟨(e + 1), _, _, _, _, rfl, by omega, by omega, fun a b q1 q2 q3 => by rw [pk_un (by omega)]; exact h2 a b q1 q2 q3, fun b q1 q2 => by rcases Nat.eq_or_lt_of_le (Nat.le_of_lt_succ q2) with q | q; (rw [q, pk_us]); (rw [pk_un (by omega)]; exact h3 b q1 q), hP, hD, hS, lv_sub hl [0, 1, 2, 3] rfl⟩
    · skip
      have c8 := knle (a := n) (b := 14) c8 (by omega) (by omega)
      omega

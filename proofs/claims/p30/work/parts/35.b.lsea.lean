set_option maxHeartbeats 4000000 in
set_option maxRecDepth 100000 in
theorem c_L_seasons (l : Launch) (D : va_G) (cI cZ cJ : ClassId) (sz : Nat) (a0 a1 a2 a3 a4 : Nat) (v hf ad g : Nat → Int32) (n len : Nat) (q2 q3 q4 q5 : Int32) (hn : n ≤ 60) (hln1 : 1 ≤ len) (hln2 : len ≤ 12) (hbit : ∀ k, kbit (hf k)) (hvb : ∀ k, k < n → -10000 ≤ (v k).toInt ∧ (v k).toInt ≤ 10000) : Met l yL_seasons wsL_seasons ({ frames := 1, cells := 0, slots := 0, locals := 40 }) (va_Pc [.ref a0, .ref a1, .ref a2, .ref a3, .ref a4] (kPre D (tyA cI cZ cJ) sz [(a0, .inl (cI, 60, .inl v)), (a1, .inl (cI, 60, .inl hf)), (a2, .inl (cI, 60, .inl ad)), (a3, .inl (cI, 12, .inl g)), (a4, .inl (cI, 6, .inl (kq (nI n) (nI len) q2 q3 q4 q5)))])) (va_Qi (fun (r : Int32) (u : (Nat → Int32) × (Nat → Int32)) => match u with | (ad2, g2) => r = kBase v hf n ∧ (∀ k, k < n → ad2 k = kAdj v hf n len k) ∧ ∀ k, k < len → g2 k = kSeas v hf n len k) (kPost D (tyA cI cZ cJ) (va_A [(a0, .inl (cI, 60, .inl v)), (a1, .inl (cI, 60, .inl hf)), (a2, .inl (cI, 60, .inl ad)), (a3, .inl (cI, 12, .inl g)), (a4, .inl (cI, 6, .inl (kq (nI n) (nI len) q2 q3 q4 q5)))] sz) (fun (u : (Nat → Int32) × (Nat → Int32)) => match u with | (ad2, g2) => [(a0, .inl (cI, 60, .inl v)), (a1, .inl (cI, 60, .inl hf)), (a2, .inl (cI, 60, .inl ad2)), (a3, .inl (cI, 12, .inl g2)), (a4, .inl (cI, 6, .inl (kq (nI n) (nI len) q2 q3 q4 q5)))])) (va_A [(a0, .inl (cI, 60, .inl v)), (a1, .inl (cI, 60, .inl hf)), (a2, .inl (cI, 60, .inl ad)), (a3, .inl (cI, 12, .inl g)), (a4, .inl (cI, 6, .inl (kq (nI n) (nI len) q2 q3 q4 q5)))] sz)) 0 0 (va_A [(a0, .inl (cI, 60, .inl v)), (a1, .inl (cI, 60, .inl hf)), (a2, .inl (cI, 60, .inl ad)), (a3, .inl (cI, 12, .inl g)), (a4, .inl (cI, 6, .inl (kq (nI n) (nI len) q2 q3 q4 q5)))] sz) := by
  refine kOfW (cc := cL_seasons) (maxL := 9) (ret := (some .int)) (fun A => va_Qi (fun (r : Int32) (u : (Nat → Int32) × (Nat → Int32)) => match u with | (ad2, g2) => r = kBase v hf n ∧ (∀ k, k < n → ad2 k = kAdj v hf n len k) ∧ ∀ k, k < len → g2 k = kSeas v hf n len k) (kPost D (tyA cI cZ cJ) (A) (fun (u : (Nat → Int32) × (Nat → Int32)) => match u with | (ad2, g2) => [(a0, .inl (cI, 60, .inl v)), (a1, .inl (cI, 60, .inl hf)), (a2, .inl (cI, 60, .inl ad2)), (a3, .inl (cI, 12, .inl g2)), (a4, .inl (cI, 6, .inl (kq (nI n) (nI len) q2 q3 q4 q5)))])) (A)) (by decide) rfl (Nat.le_of_ble_eq_true rfl) ?_
  intro p_ e_ s m_ below_ meth_ c_ A ls hx hb hr hml hts hown hlocks hin hA hP hK hD hsz hl
  have hS : va_S A s.heap s.heap [] := va_S.rf
  have hl : lv_has ls 9 [(0, .ref a0), (1, .ref a1), (2, .ref a2), (3, .ref a3), (4, .ref a4)] := hl
  refine lv_aload_n hx hb dL_seasons_0 rfl (lv_at hl 0 rfl) ?_
  refine lv_aload_n hx hb dL_seasons_1 rfl (lv_at hl 1 rfl) ?_
  refine lv_iconst (v := nI 0) hx hb dL_seasons_2 (by decide) ?_
  refine lv_aload hx hb dL_seasons_3 (lv_at hl 4 rfl) ?_
  refine lv_iconst (v := nI 0) hx hb dL_seasons_5 (by decide) ?_
  refine va_iald (D := D) hx hb hK hP 4 0 rfl rfl (vp_in_nI (by omega) (by decide)) dL_seasons_6 ?_
  refine wt_i (by rw [nI_clamp (n := 0) (by omega)]) ?_
  refine wt_i (y := nI n) rfl ?_
  refine lv_iconst (v := nI 1) hx hb dL_seasons_7 (by decide) ?_
  refine kci (wr := [(a2, .inl (cI, 60, .inl ad)), (a3, .inl (cI, 12, .inl g)), (a4, .inl (cI, 6, .inl (kq (nI n) (nI len) q2 q3 q4 q5)))]) (pre := [(a0, .inl (cI, 60, .inl v)), (a1, .inl (cI, 60, .inl hf))]) (va_runS (As := [.ref a0, .ref a1, .int (nI 0), .int (nI n), .int (nI 1)]) (rest := []) ⟨hx, hb, hml, hown, hts⟩ (c_L_median1 l D cI cZ cJ s.heap.size a0 a1 v hf 0 n (by first | assumption | omega) (by first | assumption | omega) (by first | assumption | omega)) (va_cwS 5 hts gL_seasons_L_median rfl rfl rfl (by decide +kernel) ⟨Nat.le_of_ble_eq_true rfl, Nat.le_of_ble_eq_true rfl⟩) (kpreS hK hP hD [0, 1] (by decide +kernel) rfl) rfl rfl hl.1 rfl (lv_room (Nat.le_of_ble_eq_true rfl)) dL_seasons_8 ⟨Nat.zero_le _, Nat.zero_le _⟩) hP hD hS hA [0, 1] [2, 3, 4] rfl rfl (by decide +kernel) (by decide +kernel) (fun r_1 _ H locs hw hP hD hS => ?_)
  have hP : va_P D vwCl [(a2, .inl (cI, 60, .inl ad)), (a3, .inl (cI, 12, .inl g)), (a4, .inl (cI, 6, .inl (kq (nI n) (nI len) q2 q3 q4 q5))), (a0, .inl (cI, 60, .inl v)), (a1, .inl (cI, 60, .inl hf))] H := hP
  have hD : va_D A [(a2, .inl (cI, 60, .inl ad)), (a3, .inl (cI, 12, .inl g)), (a4, .inl (cI, 6, .inl (kq (nI n) (nI len) q2 q3 q4 q5))), (a0, .inl (cI, 60, .inl v)), (a1, .inl (cI, 60, .inl hf))] := hD
  have hr9 : r_1 = kMed (kseg v hf 0 n) := hw
  refine wt_i hr9 ?_
  refine wt_i (y := kBase v hf n) (rfl) ?_
  refine lv_istore (lv' := [(5, .int (kBase v hf n)), (0, .ref a0), (1, .ref a1), (2, .ref a2), (3, .ref a3), (4, .ref a4)]) hx hb dL_seasons_11 hl (by decide) rfl (fun ls hl => ?_)
  refine lv_iconst (v := nI 0) hx hb dL_seasons_13 (by decide) ?_
  refine lv_istore (lv' := [(6, .int (nI 0)), (5, .int (kBase v hf n)), (0, .ref a0), (1, .ref a1), (2, .ref a2), (3, .ref a3), (4, .ref a4)]) hx hb dL_seasons_14 hl (by decide) rfl (fun ls hl => ?_)
  refine wl_loop (fun (d9 : Nat) (H : Heap) (locs : List Loc) (ls : Array Slot) => ∃ (p : Nat) (g1 : Nat → Int32), d9 = len - p ∧ (p ≤ len) ∧ (∀ j, j < p → (j < n → g1 j = kMed (kpk v hf j len (kms j n len)) - kBase v hf n) ∧ (n ≤ j → g1 j = 0)) ∧ va_P D vwCl [(a2, .inl (cI, 60, .inl ad)), (a3, .inl (cI, 12, .inl g1)), (a4, .inl (cI, 6, .inl (kq (nI n) (nI len) q2 q3 q4 q5))), (a0, .inl (cI, 60, .inl v)), (a1, .inl (cI, 60, .inl hf))] H ∧ va_D A [(a2, .inl (cI, 60, .inl ad)), (a3, .inl (cI, 12, .inl g1)), (a4, .inl (cI, 6, .inl (kq (nI n) (nI len) q2 q3 q4 q5))), (a0, .inl (cI, 60, .inl v)), (a1, .inl (cI, 60, .inl hf))] ∧ va_S A s.heap H locs ∧ lv_has ls 9 [(6, .int (nI p)), (5, .int (kBase v hf n)), (0, .ref a0), (1, .ref a1), (2, .ref a2), (3, .ref a3), (4, .ref a4)]) ?_ _ ⟨0, _, rfl, Nat.zero_le _, fun j q9 => absurd q9 (Nat.not_lt_zero j), hP, hD, hS, lv_sub hl [0, 1, 2, 3, 4, 5, 6] rfl⟩
  rintro d_4 H locs ls ⟨p, g1, hd_5, hp, hg1, hP, hD, hS, hl⟩ ih_3
  refine lv_iload hx hb dL_seasons_16 (lv_at hl 0 rfl) ?_
  refine lv_aload hx hb dL_seasons_18 (lv_at hl 6 rfl) ?_
  refine lv_iconst (v := nI 1) hx hb dL_seasons_20 (by decide) ?_
  refine va_iald (D := D) hx hb hK hP 2 0 rfl rfl (vp_in_nI (by omega) (by decide)) dL_seasons_21 ?_
  refine wt_i (by rw [nI_clamp (n := 1) (by omega)]) ?_
  refine wt_i (y := nI len) rfl ?_
  refine lv_icmp_ge (tgt := 66) hx hb dL_seasons_22 (by decide) (fun c22 => ?_) (fun c22 => ?_)
  · skip
    have c22 := kle (a := len) (b := p) c22 (by omega) (by omega)
    have ep : p = len := by omega
    rw [ep] at hg1
    refine lv_iconst (v := nI 0) hx hb dL_seasons_66 (by decide) ?_
    refine lv_istore (lv' := [(6, .int (nI 0)), (5, .int (kBase v hf n)), (0, .ref a0), (1, .ref a1), (2, .ref a2), (3, .ref a3), (4, .ref a4)]) hx hb dL_seasons_67 hl (by decide) rfl (fun ls hl => ?_)
    refine wl_loop (fun (d9 : Nat) (H : Heap) (locs : List Loc) (ls : Array Slot) => ∃ (p : Nat) (g2 : Nat → Int32), d9 = len - p ∧ (p ≤ len) ∧ (∀ j, j < p → g2 j = kSeas v hf n len j) ∧ (∀ j, p ≤ j → j < len → (j < n → g2 j = kMed (kpk v hf j len (kms j n len)) - kBase v hf n) ∧ (n ≤ j → g2 j = 0)) ∧ va_P D vwCl [(a2, .inl (cI, 60, .inl ad)), (a3, .inl (cI, 12, .inl g2)), (a4, .inl (cI, 6, .inl (kq (nI n) (nI len) q2 q3 q4 q5))), (a0, .inl (cI, 60, .inl v)), (a1, .inl (cI, 60, .inl hf))] H ∧ va_D A [(a2, .inl (cI, 60, .inl ad)), (a3, .inl (cI, 12, .inl g2)), (a4, .inl (cI, 6, .inl (kq (nI n) (nI len) q2 q3 q4 q5))), (a0, .inl (cI, 60, .inl v)), (a1, .inl (cI, 60, .inl hf))] ∧ va_S A s.heap H locs ∧ lv_has ls 9 [(6, .int (nI p)), (5, .int (kBase v hf n)), (0, .ref a0), (1, .ref a1), (2, .ref a2), (3, .ref a3), (4, .ref a4)]) ?_ _ ⟨0, _, rfl, Nat.zero_le _, fun j q9 => absurd q9 (Nat.not_lt_zero j), fun j _ q9 => hg1 j q9, hP, hD, hS, lv_sub hl [0, 1, 2, 3, 4, 5, 6] rfl⟩
    rintro d_7 H locs ls ⟨p, g2, hd_8, hp, hdone, hrest, hP, hD, hS, hl⟩ ih_6
    refine lv_iload hx hb dL_seasons_69 (lv_at hl 0 rfl) ?_
    refine lv_aload hx hb dL_seasons_71 (lv_at hl 6 rfl) ?_
    refine lv_iconst (v := nI 1) hx hb dL_seasons_73 (by decide) ?_
    refine va_iald (D := D) hx hb hK hP 2 0 rfl rfl (vp_in_nI (by omega) (by decide)) dL_seasons_74 ?_
    refine wt_i (by rw [nI_clamp (n := 1) (by omega)]) ?_
    refine wt_i (y := nI len) rfl ?_
    refine lv_icmp_ge (tgt := 149) hx hb dL_seasons_75 (by decide) (fun c75 => ?_) (fun c75 => ?_)
    · skip
      have c75 := kle (a := len) (b := p) c75 (by omega) (by omega)
      have hg : ∀ j, j < len → g2 j = kSeas v hf n len j := fun j hj => by
        rcases Nat.lt_or_ge j p with z | z
        · exact hdone j z
        · rw [(hrest j z hj).2 (by omega)]
          exact (kSeas_0 hj (by omega)).symm
      refine lv_iconst (v := nI 0) hx hb dL_seasons_149 (by decide) ?_
      refine lv_istore (lv' := [(6, .int (nI 0)), (5, .int (kBase v hf n)), (0, .ref a0), (1, .ref a1), (2, .ref a2), (3, .ref a3), (4, .ref a4)]) hx hb dL_seasons_150 hl (by decide) rfl (fun ls hl => ?_)
      refine wl_loop (fun (d9 : Nat) (H : Heap) (locs : List Loc) (ls : Array Slot) => ∃ (k : Nat) (a9 : Nat → Int32), d9 = n - k ∧ (k ≤ n) ∧ (∀ j, j < k → a9 j = kAdj v hf n len j) ∧ va_P D vwCl [(a2, .inl (cI, 60, .inl a9)), (a3, .inl (cI, 12, .inl g2)), (a4, .inl (cI, 6, .inl (kq (nI n) (nI len) q2 q3 q4 q5))), (a0, .inl (cI, 60, .inl v)), (a1, .inl (cI, 60, .inl hf))] H ∧ va_D A [(a2, .inl (cI, 60, .inl a9)), (a3, .inl (cI, 12, .inl g2)), (a4, .inl (cI, 6, .inl (kq (nI n) (nI len) q2 q3 q4 q5))), (a0, .inl (cI, 60, .inl v)), (a1, .inl (cI, 60, .inl hf))] ∧ va_S A s.heap H locs ∧ lv_has ls 9 [(6, .int (nI k)), (5, .int (kBase v hf n)), (0, .ref a0), (1, .ref a1), (2, .ref a2), (3, .ref a3), (4, .ref a4)]) ?_ _ ⟨0, _, rfl, Nat.zero_le _, fun j q9 => absurd q9 (Nat.not_lt_zero j), hP, hD, hS, lv_sub hl [0, 1, 2, 3, 4, 5, 6] rfl⟩
      rintro d_10 H locs ls ⟨k, a9, hd_11, hk, ha9, hP, hD, hS, hl⟩ ih_9
      refine lv_iload hx hb dL_seasons_152 (lv_at hl 0 rfl) ?_
      refine lv_aload hx hb dL_seasons_154 (lv_at hl 6 rfl) ?_
      refine lv_iconst (v := nI 0) hx hb dL_seasons_156 (by decide) ?_
      refine va_iald (D := D) hx hb hK hP 2 0 rfl rfl (vp_in_nI (by omega) (by decide)) dL_seasons_157 ?_
      refine wt_i (by rw [nI_clamp (n := 0) (by omega)]) ?_
      refine wt_i (y := nI n) rfl ?_
      refine lv_icmp_ge (tgt := 185) hx hb dL_seasons_158 (by decide) (fun c158 => ?_) (fun c158 => ?_)
      · skip
        have c158 := kle (a := n) (b := k) c158 (by omega) (by omega)
        have ek : k = n := by omega
        rw [ek] at ha9
        refine lv_iload hx hb dL_seasons_185 (lv_at hl 1 rfl) ?_
        exact kri hx hb hr hlocks hP hK hD hS (_, _) (⟨rfl, ha9, hg⟩) [3, 4, 0, 1, 2] (by decide +kernel) rfl dL_seasons_187
      · skip
        have c158 := knle (a := n) (b := k) c158 (by omega) (by omega)
        have hml9 : k % len < len := Nat.mod_lt k (by omega)
        refine lv_aload_n hx hb dL_seasons_161 rfl (lv_at hl 4 rfl) ?_
        refine lv_iload hx hb dL_seasons_162 (lv_at hl 0 rfl) ?_
        refine lv_aload_n hx hb dL_seasons_164 rfl (lv_at hl 2 rfl) ?_
        refine lv_iload hx hb dL_seasons_165 (lv_at hl 0 rfl) ?_
        refine va_iald (D := D) hx hb hK hP 3 0 rfl rfl (vp_in_nI (by omega) (by decide)) dL_seasons_167 ?_
        refine wt_i (by rw [nI_clamp (n := k) (by omega)]) ?_
        refine lv_aload_n hx hb dL_seasons_168 rfl (lv_at hl 5 rfl) ?_
        refine lv_iload hx hb dL_seasons_169 (lv_at hl 0 rfl) ?_
        refine lv_aload hx hb dL_seasons_171 (lv_at hl 6 rfl) ?_
        refine lv_iconst (v := nI 1) hx hb dL_seasons_173 (by decide) ?_
        refine va_iald (D := D) hx hb hK hP 2 0 rfl rfl (vp_in_nI (by omega) (by decide)) dL_seasons_174 ?_
        refine wt_i (by rw [nI_clamp (n := 1) (by omega)]) ?_
        refine wt_i (y := nI len) rfl ?_
        refine lv_irem hx hb dL_seasons_175 (nI_ne0 (by omega) (by omega)) ?_
        refine wt_i (pk_rem (by omega) (by omega) (by omega)) ?_
        refine va_iald (D := D) hx hb hK hP 1 0 rfl rfl (vp_in_nI (by omega) (by decide)) dL_seasons_176 ?_
        refine wt_i (by rw [nI_clamp (n := (k % len)) (by omega)]) ?_
        refine wt_i (y := kSeas v hf n len (k % len)) (hg _ hml9) ?_
        refine lv_isub hx hb dL_seasons_177 ?_
        refine wt_i (y := kAdj v hf n len k) (rfl) ?_
        refine va_iast (D := D) hx hb hK hP hD hS 0 0 rfl rfl (vp_in_nI (by omega) (by decide)) dL_seasons_178 (fun H locs hP hD hS => ?_)
        rw [nI_clamp (n := k) (by omega)] at hP hD
        have hP : va_P D vwCl [(a2, .inl (cI, 60, .inl (upd a9 k (kAdj v hf n len k)))), (a3, .inl (cI, 12, .inl g2)), (a4, .inl (cI, 6, .inl (kq (nI n) (nI len) q2 q3 q4 q5))), (a0, .inl (cI, 60, .inl v)), (a1, .inl (cI, 60, .inl hf))] H := hP
        have hD : va_D A [(a2, .inl (cI, 60, .inl (upd a9 k (kAdj v hf n len k)))), (a3, .inl (cI, 12, .inl g2)), (a4, .inl (cI, 6, .inl (kq (nI n) (nI len) q2 q3 q4 q5))), (a0, .inl (cI, 60, .inl v)), (a1, .inl (cI, 60, .inl hf))] := hD
        refine lv_iinc (v := nI (k + 1)) (lv' := [(6, .int (nI (k + 1))), (5, .int (kBase v hf n)), (0, .ref a0), (1, .ref a1), (2, .ref a2), (3, .ref a3), (4, .ref a4)]) hx hb dL_seasons_179 hl (k := 0) rfl (by exact nI_add _ 1) (by decide) rfl (fun ls hl => ?_)
        refine lv_goto (tgt := 152) hx hb dL_seasons_182 (by decide) ?_
        exact ih_9 _ (by omega) _ _ _ ⟨(k + 1), _, rfl, by omega, fun j hj => by
              rcases Nat.eq_or_lt_of_le (Nat.le_of_lt_succ hj) with z | z
              · rw [z, pk_us]
              · rw [pk_un (by omega)]
                exact ha9 j z, hP, hD, hS, lv_sub hl [0, 1, 2, 3, 4, 5, 6] rfl⟩
    · skip
      have c75 := knle (a := len) (b := p) c75 (by omega) (by omega)
      refine lv_iload hx hb dL_seasons_78 (lv_at hl 0 rfl) ?_
      refine lv_aload hx hb dL_seasons_80 (lv_at hl 6 rfl) ?_
      refine lv_iconst (v := nI 0) hx hb dL_seasons_82 (by decide) ?_
      refine va_iald (D := D) hx hb hK hP 2 0 rfl rfl (vp_in_nI (by omega) (by decide)) dL_seasons_83 ?_
      refine wt_i (by rw [nI_clamp (n := 0) (by omega)]) ?_
      refine wt_i (y := nI n) rfl ?_
      refine lv_icmp_ge (tgt := 149) hx hb dL_seasons_84 (by decide) (fun c84 => ?_) (fun c84 => ?_)
      · skip
        have c84 := kle (a := n) (b := p) c84 (by omega) (by omega)
        have hg : ∀ j, j < len → g2 j = kSeas v hf n len j := fun j hj => by
          rcases Nat.lt_or_ge j p with z | z
          · exact hdone j z
          · rw [(hrest j z hj).2 (by omega)]
            exact (kSeas_0 hj (by omega)).symm
        refine lv_iconst (v := nI 0) hx hb dL_seasons_149 (by decide) ?_
        refine lv_istore (lv' := [(6, .int (nI 0)), (5, .int (kBase v hf n)), (0, .ref a0), (1, .ref a1), (2, .ref a2), (3, .ref a3), (4, .ref a4)]) hx hb dL_seasons_150 hl (by decide) rfl (fun ls hl => ?_)
        refine wl_loop (fun (d9 : Nat) (H : Heap) (locs : List Loc) (ls : Array Slot) => ∃ (k : Nat) (a9 : Nat → Int32), d9 = n - k ∧ (k ≤ n) ∧ (∀ j, j < k → a9 j = kAdj v hf n len j) ∧ va_P D vwCl [(a2, .inl (cI, 60, .inl a9)), (a3, .inl (cI, 12, .inl g2)), (a4, .inl (cI, 6, .inl (kq (nI n) (nI len) q2 q3 q4 q5))), (a0, .inl (cI, 60, .inl v)), (a1, .inl (cI, 60, .inl hf))] H ∧ va_D A [(a2, .inl (cI, 60, .inl a9)), (a3, .inl (cI, 12, .inl g2)), (a4, .inl (cI, 6, .inl (kq (nI n) (nI len) q2 q3 q4 q5))), (a0, .inl (cI, 60, .inl v)), (a1, .inl (cI, 60, .inl hf))] ∧ va_S A s.heap H locs ∧ lv_has ls 9 [(6, .int (nI k)), (5, .int (kBase v hf n)), (0, .ref a0), (1, .ref a1), (2, .ref a2), (3, .ref a3), (4, .ref a4)]) ?_ _ ⟨0, _, rfl, Nat.zero_le _, fun j q9 => absurd q9 (Nat.not_lt_zero j), hP, hD, hS, lv_sub hl [0, 1, 2, 3, 4, 5, 6] rfl⟩
        rintro d_13 H locs ls ⟨k, a9, hd_14, hk, ha9, hP, hD, hS, hl⟩ ih_12
        refine lv_iload hx hb dL_seasons_152 (lv_at hl 0 rfl) ?_
        refine lv_aload hx hb dL_seasons_154 (lv_at hl 6 rfl) ?_
        refine lv_iconst (v := nI 0) hx hb dL_seasons_156 (by decide) ?_
        refine va_iald (D := D) hx hb hK hP 2 0 rfl rfl (vp_in_nI (by omega) (by decide)) dL_seasons_157 ?_
        refine wt_i (by rw [nI_clamp (n := 0) (by omega)]) ?_
        refine wt_i (y := nI n) rfl ?_
        refine lv_icmp_ge (tgt := 185) hx hb dL_seasons_158 (by decide) (fun c158 => ?_) (fun c158 => ?_)
        · skip
          have c158 := kle (a := n) (b := k) c158 (by omega) (by omega)
          have ek : k = n := by omega
          rw [ek] at ha9
          refine lv_iload hx hb dL_seasons_185 (lv_at hl 1 rfl) ?_
          exact kri hx hb hr hlocks hP hK hD hS (_, _) (⟨rfl, ha9, hg⟩) [3, 4, 0, 1, 2] (by decide +kernel) rfl dL_seasons_187
        · skip
          have c158 := knle (a := n) (b := k) c158 (by omega) (by omega)
          have hml9 : k % len < len := Nat.mod_lt k (by omega)
          refine lv_aload_n hx hb dL_seasons_161 rfl (lv_at hl 4 rfl) ?_
          refine lv_iload hx hb dL_seasons_162 (lv_at hl 0 rfl) ?_
          refine lv_aload_n hx hb dL_seasons_164 rfl (lv_at hl 2 rfl) ?_
          refine lv_iload hx hb dL_seasons_165 (lv_at hl 0 rfl) ?_
          refine va_iald (D := D) hx hb hK hP 3 0 rfl rfl (vp_in_nI (by omega) (by decide)) dL_seasons_167 ?_
          refine wt_i (by rw [nI_clamp (n := k) (by omega)]) ?_
          refine lv_aload_n hx hb dL_seasons_168 rfl (lv_at hl 5 rfl) ?_
          refine lv_iload hx hb dL_seasons_169 (lv_at hl 0 rfl) ?_
          refine lv_aload hx hb dL_seasons_171 (lv_at hl 6 rfl) ?_
          refine lv_iconst (v := nI 1) hx hb dL_seasons_173 (by decide) ?_
          refine va_iald (D := D) hx hb hK hP 2 0 rfl rfl (vp_in_nI (by omega) (by decide)) dL_seasons_174 ?_
          refine wt_i (by rw [nI_clamp (n := 1) (by omega)]) ?_
          refine wt_i (y := nI len) rfl ?_
          refine lv_irem hx hb dL_seasons_175 (nI_ne0 (by omega) (by omega)) ?_
          refine wt_i (pk_rem (by omega) (by omega) (by omega)) ?_
          refine va_iald (D := D) hx hb hK hP 1 0 rfl rfl (vp_in_nI (by omega) (by decide)) dL_seasons_176 ?_
          refine wt_i (by rw [nI_clamp (n := (k % len)) (by omega)]) ?_
          refine wt_i (y := kSeas v hf n len (k % len)) (hg _ hml9) ?_
          refine lv_isub hx hb dL_seasons_177 ?_
          refine wt_i (y := kAdj v hf n len k) (rfl) ?_
          refine va_iast (D := D) hx hb hK hP hD hS 0 0 rfl rfl (vp_in_nI (by omega) (by decide)) dL_seasons_178 (fun H locs hP hD hS => ?_)
          rw [nI_clamp (n := k) (by omega)] at hP hD
          have hP : va_P D vwCl [(a2, .inl (cI, 60, .inl (upd a9 k (kAdj v hf n len k)))), (a3, .inl (cI, 12, .inl g2)), (a4, .inl (cI, 6, .inl (kq (nI n) (nI len) q2 q3 q4 q5))), (a0, .inl (cI, 60, .inl v)), (a1, .inl (cI, 60, .inl hf))] H := hP
          have hD : va_D A [(a2, .inl (cI, 60, .inl (upd a9 k (kAdj v hf n len k)))), (a3, .inl (cI, 12, .inl g2)), (a4, .inl (cI, 6, .inl (kq (nI n) (nI len) q2 q3 q4 q5))), (a0, .inl (cI, 60, .inl v)), (a1, .inl (cI, 60, .inl hf))] := hD
          refine lv_iinc (v := nI (k + 1)) (lv' := [(6, .int (nI (k + 1))), (5, .int (kBase v hf n)), (0, .ref a0), (1, .ref a1), (2, .ref a2), (3, .ref a3), (4, .ref a4)]) hx hb dL_seasons_179 hl (k := 0) rfl (by exact nI_add _ 1) (by decide) rfl (fun ls hl => ?_)
          refine lv_goto (tgt := 152) hx hb dL_seasons_182 (by decide) ?_
          exact ih_12 _ (by omega) _ _ _ ⟨(k + 1), _, rfl, by omega, fun j hj => by
                rcases Nat.eq_or_lt_of_le (Nat.le_of_lt_succ hj) with z | z
                · rw [z, pk_us]
                · rw [pk_un (by omega)]
                  exact ha9 j z, hP, hD, hS, lv_sub hl [0, 1, 2, 3, 4, 5, 6] rfl⟩
      · skip
        have c84 := knle (a := n) (b := p) c84 (by omega) (by omega)
        refine lv_iconst (v := nI 0) hx hb dL_seasons_87 (by decide) ?_
        refine lv_istore (lv' := [(7, .int (nI 0)), (6, .int (nI p)), (5, .int (kBase v hf n)), (0, .ref a0), (1, .ref a1), (2, .ref a2), (3, .ref a3), (4, .ref a4)]) hx hb dL_seasons_88 hl (by decide) rfl (fun ls hl => ?_)
        refine lv_iload hx hb dL_seasons_90 (lv_at hl 1 rfl) ?_
        refine lv_istore (lv' := [(8, .int (nI p)), (7, .int (nI 0)), (6, .int (nI p)), (5, .int (kBase v hf n)), (0, .ref a0), (1, .ref a1), (2, .ref a2), (3, .ref a3), (4, .ref a4)]) hx hb dL_seasons_92 hl (by decide) rfl (fun ls hl => ?_)
        refine wl_loop (fun (d9 : Nat) (H : Heap) (locs : List Loc) (ls : Array Slot) => ∃ (i : Nat), d9 = kms p n len - i ∧ (i ≤ kms p n len) ∧ (p + len * i ≤ 72) ∧ va_P D vwCl [(a2, .inl (cI, 60, .inl ad)), (a3, .inl (cI, 12, .inl g2)), (a4, .inl (cI, 6, .inl (kq (nI n) (nI len) q2 q3 q4 q5))), (a0, .inl (cI, 60, .inl v)), (a1, .inl (cI, 60, .inl hf))] H ∧ va_D A [(a2, .inl (cI, 60, .inl ad)), (a3, .inl (cI, 12, .inl g2)), (a4, .inl (cI, 6, .inl (kq (nI n) (nI len) q2 q3 q4 q5))), (a0, .inl (cI, 60, .inl v)), (a1, .inl (cI, 60, .inl hf))] ∧ va_S A s.heap H locs ∧ lv_has ls 9 [(8, .int (nI (p + len * i))), (7, .int (nI (kpk v hf p len i).length)), (6, .int (nI p)), (5, .int (kBase v hf n)), (0, .ref a0), (1, .ref a1), (2, .ref a2), (3, .ref a3), (4, .ref a4)]) ?_ _ ⟨0, rfl, Nat.zero_le _, by omega, hP, hD, hS, lv_sub hl [0, 1, 2, 3, 4, 5, 6, 7, 8] rfl⟩
        rintro d_16 H locs ls ⟨i, hd_17, hi, hpi, hP, hD, hS, hl⟩ ih_15
        refine lv_iload hx hb dL_seasons_94 (lv_at hl 0 rfl) ?_
        refine lv_aload hx hb dL_seasons_96 (lv_at hl 8 rfl) ?_
        refine lv_iconst (v := nI 0) hx hb dL_seasons_98 (by decide) ?_
        refine va_iald (D := D) hx hb hK hP 2 0 rfl rfl (vp_in_nI (by omega) (by decide)) dL_seasons_99 ?_
        refine wt_i (by rw [nI_clamp (n := 0) (by omega)]) ?_
        refine wt_i (y := nI n) rfl ?_
        refine lv_icmp_ge (tgt := 126) hx hb dL_seasons_100 (by decide) (fun c100 => ?_) (fun c100 => ?_)
        · skip
          have c100 := kle (a := n) (b := (p + len * i)) c100 (by omega) (by omega)
          have ei : i = kms p n len := by
            rcases Nat.lt_or_ge i (kms p n len) with z | z
            · have := (kms_lt (a := p) (b := n) hln1 i).mp z
              omega
            · omega
          rw [ei] at hl
          have hkl := kpk_len v hf p len (kms p n len)
          have hk6 := kms_le (a := p) (b := n) hln1
          refine lv_aload_n hx hb dL_seasons_126 rfl (lv_at hl 7 rfl) ?_
          refine lv_iload hx hb dL_seasons_127 (lv_at hl 2 rfl) ?_
          refine lv_iload hx hb dL_seasons_129 (lv_at hl 1 rfl) ?_
          refine lv_if_ne (tgt := 138) hx hb dL_seasons_131 (by decide) (fun c131 => ?_) (fun c131 => ?_)
          · skip
            have c131 := kneq (a := (kpk v hf p len (kms p n len)).length) (b := 0) c131 (by omega) (by omega)
            refine lv_aload_n hx hb dL_seasons_138 rfl (lv_at hl 7 rfl) ?_
            refine lv_iload hx hb dL_seasons_139 (lv_at hl 2 rfl) ?_
            refine va_iald (D := D) hx hb hK hP 1 0 rfl rfl (vp_in_nI (by omega) (by decide)) dL_seasons_141 ?_
            refine wt_i (by rw [nI_clamp (n := p) (by omega)]) ?_
            refine va_iast (D := D) hx hb hK hP hD hS 1 0 rfl rfl (vp_in_nI (by omega) (by decide)) dL_seasons_142 (fun H locs hP hD hS => ?_)
            rw [nI_clamp (n := p) (by omega)] at hP hD
            have hP : va_P D vwCl [(a2, .inl (cI, 60, .inl ad)), (a3, .inl (cI, 12, .inl (upd g2 p (g2 p)))), (a4, .inl (cI, 6, .inl (kq (nI n) (nI len) q2 q3 q4 q5))), (a0, .inl (cI, 60, .inl v)), (a1, .inl (cI, 60, .inl hf))] H := hP
            have hD : va_D A [(a2, .inl (cI, 60, .inl ad)), (a3, .inl (cI, 12, .inl (upd g2 p (g2 p)))), (a4, .inl (cI, 6, .inl (kq (nI n) (nI len) q2 q3 q4 q5))), (a0, .inl (cI, 60, .inl v)), (a1, .inl (cI, 60, .inl hf))] := hD
            refine lv_iinc (v := nI (p + 1)) (lv' := [(6, .int (nI (p + 1))), (8, .int (nI (p + len * (kms p n len)))), (7, .int (nI (kpk v hf p len (kms p n len)).length)), (5, .int (kBase v hf n)), (0, .ref a0), (1, .ref a1), (2, .ref a2), (3, .ref a3), (4, .ref a4)]) hx hb dL_seasons_143 hl (k := 2) rfl (by exact nI_add _ 1) (by decide) rfl (fun ls hl => ?_)
            refine lv_goto (tgt := 69) hx hb dL_seasons_146 (by decide) ?_
            exact ih_6 _ (by omega) _ _ _ ⟨(p + 1), _, rfl, by omega, fun j hj => by
                  rcases Nat.eq_or_lt_of_le (Nat.le_of_lt_succ hj) with z | z
                  · rw [z, pk_us, kSeas_is hln1 c75 (fun i => kms_lt hln1 i) hvb]
                    first | exact (if_pos c131).symm | exact ((hrest p (Nat.le_refl p) c75).1 c84).trans (if_neg c131).symm
                  · rw [pk_un (by omega)]
                    exact hdone j z, fun j q8 q9 => by
                  rw [pk_un (by omega)]
                  exact hrest j (by omega) q9, hP, hD, hS, lv_sub hl [0, 3, 4, 5, 6, 7, 8] rfl⟩
          · skip
            have c131 := keq (a := (kpk v hf p len (kms p n len)).length) (b := 0) c131 (by omega) (by omega)
            refine lv_iconst (v := nI 0) hx hb dL_seasons_134 (by decide) ?_
            refine lv_goto (tgt := 142) hx hb dL_seasons_135 (by decide) ?_
            refine va_iast (D := D) hx hb hK hP hD hS 1 0 rfl rfl (vp_in_nI (by omega) (by decide)) dL_seasons_142 (fun H locs hP hD hS => ?_)
            rw [nI_clamp (n := p) (by omega)] at hP hD
            have hP : va_P D vwCl [(a2, .inl (cI, 60, .inl ad)), (a3, .inl (cI, 12, .inl (upd g2 p (nI 0)))), (a4, .inl (cI, 6, .inl (kq (nI n) (nI len) q2 q3 q4 q5))), (a0, .inl (cI, 60, .inl v)), (a1, .inl (cI, 60, .inl hf))] H := hP
            have hD : va_D A [(a2, .inl (cI, 60, .inl ad)), (a3, .inl (cI, 12, .inl (upd g2 p (nI 0)))), (a4, .inl (cI, 6, .inl (kq (nI n) (nI len) q2 q3 q4 q5))), (a0, .inl (cI, 60, .inl v)), (a1, .inl (cI, 60, .inl hf))] := hD
            refine lv_iinc (v := nI (p + 1)) (lv' := [(6, .int (nI (p + 1))), (8, .int (nI (p + len * (kms p n len)))), (7, .int (nI (kpk v hf p len (kms p n len)).length)), (5, .int (kBase v hf n)), (0, .ref a0), (1, .ref a1), (2, .ref a2), (3, .ref a3), (4, .ref a4)]) hx hb dL_seasons_143 hl (k := 2) rfl (by exact nI_add _ 1) (by decide) rfl (fun ls hl => ?_)
            refine lv_goto (tgt := 69) hx hb dL_seasons_146 (by decide) ?_
            exact ih_6 _ (by omega) _ _ _ ⟨(p + 1), _, rfl, by omega, fun j hj => by
                  rcases Nat.eq_or_lt_of_le (Nat.le_of_lt_succ hj) with z | z
                  · rw [z, pk_us, kSeas_is hln1 c75 (fun i => kms_lt hln1 i) hvb]
                    first | exact (if_pos c131).symm | exact ((hrest p (Nat.le_refl p) c75).1 c84).trans (if_neg c131).symm
                  · rw [pk_un (by omega)]
                    exact hdone j z, fun j q8 q9 => by
                  rw [pk_un (by omega)]
                  exact hrest j (by omega) q9, hP, hD, hS, lv_sub hl [0, 3, 4, 5, 6, 7, 8] rfl⟩
        · skip
          have c100 := knle (a := n) (b := (p + len * i)) c100 (by omega) (by omega)
          refine lv_iload hx hb dL_seasons_103 (lv_at hl 1 rfl) ?_
          refine lv_iconst (v := nI 1) hx hb dL_seasons_105 (by decide) ?_
          refine lv_aload_n hx hb dL_seasons_106 rfl (lv_at hl 5 rfl) ?_
          refine lv_iload hx hb dL_seasons_107 (lv_at hl 0 rfl) ?_
          refine va_iald (D := D) hx hb hK hP 4 0 rfl rfl (vp_in_nI (by omega) (by decide)) dL_seasons_109 ?_
          refine wt_i (by rw [nI_clamp (n := (p + len * i)) (by omega)]) ?_
          refine lv_isub hx hb dL_seasons_110 ?_
          refine lv_iadd hx hb dL_seasons_111 ?_
          refine wt_i (y := nI (kpk v hf p len (i + 1)).length) (kpk_cnt (hbit _)) ?_
          refine lv_istore (lv' := [(7, .int (nI (kpk v hf p len (i + 1)).length)), (8, .int (nI (p + len * i))), (6, .int (nI p)), (5, .int (kBase v hf n)), (0, .ref a0), (1, .ref a1), (2, .ref a2), (3, .ref a3), (4, .ref a4)]) hx hb dL_seasons_112 hl (by decide) rfl (fun ls hl => ?_)
          refine lv_iload hx hb dL_seasons_114 (lv_at hl 1 rfl) ?_
          refine lv_aload hx hb dL_seasons_116 (lv_at hl 8 rfl) ?_
          refine lv_iconst (v := nI 1) hx hb dL_seasons_118 (by decide) ?_
          refine va_iald (D := D) hx hb hK hP 2 0 rfl rfl (vp_in_nI (by omega) (by decide)) dL_seasons_119 ?_
          refine wt_i (by rw [nI_clamp (n := 1) (by omega)]) ?_
          refine wt_i (y := nI len) rfl ?_
          refine lv_iadd hx hb dL_seasons_120 ?_
          refine wt_i (y := nI (p + len * (i + 1))) (knext p len i) ?_
          refine lv_istore (lv' := [(8, .int (nI (p + len * (i + 1)))), (7, .int (nI (kpk v hf p len (i + 1)).length)), (6, .int (nI p)), (5, .int (kBase v hf n)), (0, .ref a0), (1, .ref a1), (2, .ref a2), (3, .ref a3), (4, .ref a4)]) hx hb dL_seasons_121 hl (by decide) rfl (fun ls hl => ?_)
          refine lv_goto (tgt := 94) hx hb dL_seasons_123 (by decide) ?_
          have him : i < kms p n len := (kms_lt hln1 i).mpr c100
          exact ih_15 _ (by omega) _ _ _ ⟨(i + 1), rfl, Nat.succ_le_of_lt him, by rw [Nat.mul_add, Nat.mul_one]; omega, hP, hD, hS, lv_sub hl [0, 1, 2, 3, 4, 5, 6, 7, 8] rfl⟩
  · skip
    have c22 := knle (a := len) (b := p) c22 (by omega) (by omega)
    refine lv_aload_n hx hb dL_seasons_25 rfl (lv_at hl 5 rfl) ?_
    refine lv_iload hx hb dL_seasons_26 (lv_at hl 0 rfl) ?_
    refine lv_iload hx hb dL_seasons_28 (lv_at hl 0 rfl) ?_
    refine lv_aload hx hb dL_seasons_30 (lv_at hl 6 rfl) ?_
    refine lv_iconst (v := nI 0) hx hb dL_seasons_32 (by decide) ?_
    refine va_iald (D := D) hx hb hK hP 2 0 rfl rfl (vp_in_nI (by omega) (by decide)) dL_seasons_33 ?_
    refine wt_i (by rw [nI_clamp (n := 0) (by omega)]) ?_
    refine wt_i (y := nI n) rfl ?_
    refine lv_icmp_ge (tgt := 58) hx hb dL_seasons_34 (by decide) (fun c34 => ?_) (fun c34 => ?_)
    · skip
      have c34 := kle (a := n) (b := p) c34 (by omega) (by omega)
      refine lv_iconst (v := nI 0) hx hb dL_seasons_58 (by decide) ?_
      refine va_iast (D := D) hx hb hK hP hD hS 1 0 rfl rfl (vp_in_nI (by omega) (by decide)) dL_seasons_59 (fun H locs hP hD hS => ?_)
      rw [nI_clamp (n := p) (by omega)] at hP hD
      have hP : va_P D vwCl [(a2, .inl (cI, 60, .inl ad)), (a3, .inl (cI, 12, .inl (upd g1 p (nI 0)))), (a4, .inl (cI, 6, .inl (kq (nI n) (nI len) q2 q3 q4 q5))), (a0, .inl (cI, 60, .inl v)), (a1, .inl (cI, 60, .inl hf))] H := hP
      have hD : va_D A [(a2, .inl (cI, 60, .inl ad)), (a3, .inl (cI, 12, .inl (upd g1 p (nI 0)))), (a4, .inl (cI, 6, .inl (kq (nI n) (nI len) q2 q3 q4 q5))), (a0, .inl (cI, 60, .inl v)), (a1, .inl (cI, 60, .inl hf))] := hD
      refine lv_iinc (v := nI (p + 1)) (lv' := [(6, .int (nI (p + 1))), (5, .int (kBase v hf n)), (0, .ref a0), (1, .ref a1), (2, .ref a2), (3, .ref a3), (4, .ref a4)]) hx hb dL_seasons_60 hl (k := 0) rfl (by exact nI_add _ 1) (by decide) rfl (fun ls hl => ?_)
      refine lv_goto (tgt := 16) hx hb dL_seasons_63 (by decide) ?_
      exact ih_3 _ (by omega) _ _ _ ⟨(p + 1), _, rfl, by omega, fun j hj => by
            rcases Nat.eq_or_lt_of_le (Nat.le_of_lt_succ hj) with z | z
            · rw [z, pk_us]
              first | exact ⟨fun _ => rfl, fun z2 => absurd z2 (by omega)⟩ | exact ⟨fun z2 => absurd z2 (by omega), fun _ => rfl⟩
            · rw [pk_un (by omega)]
              exact hg1 j z, hP, hD, hS, lv_sub hl [0, 1, 2, 3, 4, 5, 6] rfl⟩
    · skip
      have c34 := knle (a := n) (b := p) c34 (by omega) (by omega)
      refine lv_aload_n hx hb dL_seasons_37 rfl (lv_at hl 2 rfl) ?_
      refine lv_aload_n hx hb dL_seasons_38 rfl (lv_at hl 3 rfl) ?_
      refine lv_iload hx hb dL_seasons_39 (lv_at hl 0 rfl) ?_
      refine lv_aload hx hb dL_seasons_41 (lv_at hl 6 rfl) ?_
      refine lv_iconst (v := nI 0) hx hb dL_seasons_43 (by decide) ?_
      refine va_iald (D := D) hx hb hK hP 2 0 rfl rfl (vp_in_nI (by omega) (by decide)) dL_seasons_44 ?_
      refine wt_i (by rw [nI_clamp (n := 0) (by omega)]) ?_
      refine wt_i (y := nI n) rfl ?_
      refine lv_aload hx hb dL_seasons_45 (lv_at hl 6 rfl) ?_
      refine lv_iconst (v := nI 1) hx hb dL_seasons_47 (by decide) ?_
      refine va_iald (D := D) hx hb hK hP 2 0 rfl rfl (vp_in_nI (by omega) (by decide)) dL_seasons_48 ?_
      refine wt_i (by rw [nI_clamp (n := 1) (by omega)]) ?_
      refine wt_i (y := nI len) rfl ?_
      refine kci (wr := [(a2, .inl (cI, 60, .inl ad)), (a3, .inl (cI, 12, .inl g1)), (a4, .inl (cI, 6, .inl (kq (nI n) (nI len) q2 q3 q4 q5)))]) (pre := [(a0, .inl (cI, 60, .inl v)), (a1, .inl (cI, 60, .inl hf))]) (va_runS (As := [.ref a0, .ref a1, .int (nI p), .int (nI n), .int (nI len)]) (rest := [.int (nI p), .ref a3]) ⟨hx, hb, hml, hown, hts⟩ (c_L_median l D cI cZ cJ H.size a0 a1 v hf p n len (kms p n len) (kms_lt hln1) (by first | assumption | omega) (by first | assumption | omega) (by first | assumption | omega) (by first | assumption | omega) (by have := kms_le (a := p) (b := n) hln1; omega) (by first | assumption | omega)) (va_cwS 5 hts gL_seasons_L_median rfl rfl rfl (by decide +kernel) ⟨Nat.le_of_ble_eq_true rfl, Nat.le_of_ble_eq_true rfl⟩) (kpreS hK hP hD [3, 4] (by decide +kernel) rfl) rfl rfl hl.1 rfl (lv_room (Nat.le_of_ble_eq_true rfl)) dL_seasons_49 ⟨Nat.zero_le _, Nat.zero_le _⟩) hP hD hS hA [3, 4] [0, 1, 2] rfl rfl (by decide +kernel) (by decide +kernel) (fun r_18 _ H locs hw hP hD hS => ?_)
      have hP : va_P D vwCl [(a2, .inl (cI, 60, .inl ad)), (a3, .inl (cI, 12, .inl g1)), (a4, .inl (cI, 6, .inl (kq (nI n) (nI len) q2 q3 q4 q5))), (a0, .inl (cI, 60, .inl v)), (a1, .inl (cI, 60, .inl hf))] H := hP
      have hD : va_D A [(a2, .inl (cI, 60, .inl ad)), (a3, .inl (cI, 12, .inl g1)), (a4, .inl (cI, 6, .inl (kq (nI n) (nI len) q2 q3 q4 q5))), (a0, .inl (cI, 60, .inl v)), (a1, .inl (cI, 60, .inl hf))] := hD
      have hr9 : r_18 = kMed (kpk v hf p len (kms p n len)) := hw
      refine wt_i hr9 ?_
      refine lv_iload hx hb dL_seasons_52 (lv_at hl 1 rfl) ?_
      refine lv_isub hx hb dL_seasons_54 ?_
      refine lv_goto (tgt := 59) hx hb dL_seasons_55 (by decide) ?_
      refine va_iast (D := D) hx hb hK hP hD hS 1 0 rfl rfl (vp_in_nI (by omega) (by decide)) dL_seasons_59 (fun H locs hP hD hS => ?_)
      rw [nI_clamp (n := p) (by omega)] at hP hD
      have hP : va_P D vwCl [(a2, .inl (cI, 60, .inl ad)), (a3, .inl (cI, 12, .inl (upd g1 p ((kMed (kpk v hf p len (kms p n len))) - (kBase v hf n))))), (a4, .inl (cI, 6, .inl (kq (nI n) (nI len) q2 q3 q4 q5))), (a0, .inl (cI, 60, .inl v)), (a1, .inl (cI, 60, .inl hf))] H := hP
      have hD : va_D A [(a2, .inl (cI, 60, .inl ad)), (a3, .inl (cI, 12, .inl (upd g1 p ((kMed (kpk v hf p len (kms p n len))) - (kBase v hf n))))), (a4, .inl (cI, 6, .inl (kq (nI n) (nI len) q2 q3 q4 q5))), (a0, .inl (cI, 60, .inl v)), (a1, .inl (cI, 60, .inl hf))] := hD
      refine lv_iinc (v := nI (p + 1)) (lv' := [(6, .int (nI (p + 1))), (5, .int (kBase v hf n)), (0, .ref a0), (1, .ref a1), (2, .ref a2), (3, .ref a3), (4, .ref a4)]) hx hb dL_seasons_60 hl (k := 0) rfl (by exact nI_add _ 1) (by decide) rfl (fun ls hl => ?_)
      refine lv_goto (tgt := 16) hx hb dL_seasons_63 (by decide) ?_
      exact ih_3 _ (by omega) _ _ _ ⟨(p + 1), _, rfl, by omega, fun j hj => by
            rcases Nat.eq_or_lt_of_le (Nat.le_of_lt_succ hj) with z | z
            · rw [z, pk_us]
              first | exact ⟨fun _ => rfl, fun z2 => absurd z2 (by omega)⟩ | exact ⟨fun z2 => absurd z2 (by omega), fun _ => rfl⟩
            · rw [pk_un (by omega)]
              exact hg1 j z, hP, hD, hS, lv_sub hl [0, 1, 2, 3, 4, 5, 6] rfl⟩

theorem km1 : (Int32.ofInt (-1)).toInt = -1 := by decide

set_option maxHeartbeats 4000000 in
set_option maxRecDepth 100000 in
theorem c_L_division (l : Launch) (D : va_G) (cI cZ cJ : ClassId) (sz : Nat) (a0 a1 a2 a3 a4 a5 : Nat) (ad hf c1 d1 e1 : Nat → Int32) (n ll : Nat) (q1 pen q4 q5 : Int32) (rc rk re : Nat → Int32) (hn : n ≤ 60) (hll : 1 ≤ ll) (hlm : ll ≤ 10) (hbit : ∀ k, kbit (hf k)) (hav : ∀ k, k < n → kIn 30000 (ad k)) (hpb : 0 ≤ pen.toInt ∧ pen.toInt ≤ 100000) (hdp : kDP ad hf ll pen n rc rk re 0) : Met l yL_division wsL_division ({ frames := 2, cells := 0, slots := 0, locals := 80 }) (va_Pc [.ref a0, .ref a1, .ref a2, .ref a3, .ref a4, .ref a5] (kPre D (tyA cI cZ cJ) sz [(a0, .inl (cI, 60, .inl ad)), (a1, .inl (cI, 60, .inl hf)), (a2, .inl (cI, 61, .inl c1)), (a3, .inl (cI, 61, .inl d1)), (a4, .inl (cI, 61, .inl e1)), (a5, .inl (cI, 6, .inl (kq (nI n) q1 (nI ll) pen q4 q5)))])) (va_Qv (fun (u : (Nat → Int32) × (Nat → Int32) × (Nat → Int32)) => match u with | (c2, d2, e2) => ∀ j, j < n → (j = 0 ∨ ll ≤ n - j) → c2 j = rc j ∧ d2 j = rk j ∧ e2 j = re j) (kPost D (tyA cI cZ cJ) (va_A [(a0, .inl (cI, 60, .inl ad)), (a1, .inl (cI, 60, .inl hf)), (a2, .inl (cI, 61, .inl c1)), (a3, .inl (cI, 61, .inl d1)), (a4, .inl (cI, 61, .inl e1)), (a5, .inl (cI, 6, .inl (kq (nI n) q1 (nI ll) pen q4 q5)))] sz) (fun (u : (Nat → Int32) × (Nat → Int32) × (Nat → Int32)) => match u with | (c2, d2, e2) => [(a0, .inl (cI, 60, .inl ad)), (a1, .inl (cI, 60, .inl hf)), (a2, .inl (cI, 61, .inl c2)), (a3, .inl (cI, 61, .inl d2)), (a4, .inl (cI, 61, .inl e2)), (a5, .inl (cI, 6, .inl (kq (nI n) q1 (nI ll) pen q4 q5)))])) (va_A [(a0, .inl (cI, 60, .inl ad)), (a1, .inl (cI, 60, .inl hf)), (a2, .inl (cI, 61, .inl c1)), (a3, .inl (cI, 61, .inl d1)), (a4, .inl (cI, 61, .inl e1)), (a5, .inl (cI, 6, .inl (kq (nI n) q1 (nI ll) pen q4 q5)))] sz)) 0 0 (va_A [(a0, .inl (cI, 60, .inl ad)), (a1, .inl (cI, 60, .inl hf)), (a2, .inl (cI, 61, .inl c1)), (a3, .inl (cI, 61, .inl d1)), (a4, .inl (cI, 61, .inl e1)), (a5, .inl (cI, 6, .inl (kq (nI n) q1 (nI ll) pen q4 q5)))] sz) := by
  refine kOfW (cc := cL_division) (maxL := 12) (ret := none) (fun A => va_Qv (fun (u : (Nat → Int32) × (Nat → Int32) × (Nat → Int32)) => match u with | (c2, d2, e2) => ∀ j, j < n → (j = 0 ∨ ll ≤ n - j) → c2 j = rc j ∧ d2 j = rk j ∧ e2 j = re j) (kPost D (tyA cI cZ cJ) (A) (fun (u : (Nat → Int32) × (Nat → Int32) × (Nat → Int32)) => match u with | (c2, d2, e2) => [(a0, .inl (cI, 60, .inl ad)), (a1, .inl (cI, 60, .inl hf)), (a2, .inl (cI, 61, .inl c2)), (a3, .inl (cI, 61, .inl d2)), (a4, .inl (cI, 61, .inl e2)), (a5, .inl (cI, 6, .inl (kq (nI n) q1 (nI ll) pen q4 q5)))])) (A)) (by decide) rfl (Nat.le_of_ble_eq_true rfl) ?_
  intro p_ e_ s m_ below_ meth_ c_ A ls hx hb hr hml hts hown hlocks hin hA hP hK hD hsz hl
  have hS : va_S A s.heap s.heap [] := va_S.rf
  have hl : lv_has ls 12 [(0, .ref a0), (1, .ref a1), (2, .ref a2), (3, .ref a3), (4, .ref a4), (5, .ref a5)] := hl
  refine lv_aload hx hb dL_division_0 (lv_at hl 5 rfl) ?_
  refine lv_iconst (v := nI 0) hx hb dL_division_2 (by decide) ?_
  refine va_iald (D := D) hx hb hK hP 5 0 rfl rfl (vp_in_nI (by omega) (by decide)) dL_division_3 ?_
  refine wt_i (by rw [nI_clamp (n := 0) (by omega)]) ?_
  refine wt_i (y := nI n) rfl ?_
  refine lv_istore (lv' := [(6, .int (nI n)), (0, .ref a0), (1, .ref a1), (2, .ref a2), (3, .ref a3), (4, .ref a4), (5, .ref a5)]) hx hb dL_division_4 hl (by decide) rfl (fun ls hl => ?_)
  refine lv_iload hx hb dL_division_6 (lv_at hl 0 rfl) ?_
  refine lv_iconst (v := nI 1) hx hb dL_division_8 (by decide) ?_
  refine lv_isub hx hb dL_division_9 ?_
  refine wt_i (y := (nI n - nI 1)) (rfl) ?_
  refine lv_istore (lv' := [(7, .int (nI n - nI 1)), (6, .int (nI n)), (0, .ref a0), (1, .ref a1), (2, .ref a2), (3, .ref a3), (4, .ref a4), (5, .ref a5)]) hx hb dL_division_10 hl (by decide) rfl (fun ls hl => ?_)
  refine wl_loop (fun (d9 : Nat) (H : Heap) (locs : List Loc) (ls : Array Slot) => ∃ (y9 : Int32) (t : Nat) (c2 : Nat → Int32) (d2 : Nat → Int32) (e2 : Nat → Int32), d9 = n - t ∧ (t ≤ n) ∧ (y9.toInt = (n : Int) - 1 - t) ∧ (∀ j, n - t ≤ j → j < n → (j = 0 ∨ ll ≤ n - j) → c2 j = rc j ∧ d2 j = rk j ∧ e2 j = re j) ∧ va_P D vwCl [(a0, .inl (cI, 60, .inl ad)), (a1, .inl (cI, 60, .inl hf)), (a2, .inl (cI, 61, .inl c2)), (a3, .inl (cI, 61, .inl d2)), (a4, .inl (cI, 61, .inl e2)), (a5, .inl (cI, 6, .inl (kq (nI n) q1 (nI ll) pen q4 q5)))] H ∧ va_D A [(a0, .inl (cI, 60, .inl ad)), (a1, .inl (cI, 60, .inl hf)), (a2, .inl (cI, 61, .inl c2)), (a3, .inl (cI, 61, .inl d2)), (a4, .inl (cI, 61, .inl e2)), (a5, .inl (cI, 6, .inl (kq (nI n) q1 (nI ll) pen q4 q5)))] ∧ va_S A s.heap H locs ∧ lv_has ls 12 [(7, .int y9), (6, .int (nI n)), (0, .ref a0), (1, .ref a1), (2, .ref a2), (3, .ref a3), (4, .ref a4), (5, .ref a5)]) ?_ _ ⟨_, 0, _, _, _, rfl, Nat.zero_le _, by rw [kn1 hn]; omega, fun j h1 h2 => absurd h1 (by omega), hP, hD, hS, lv_sub hl [0, 1, 2, 3, 4, 5, 6, 7] rfl⟩
  rintro d_2 H locs ls ⟨y9, t, c2, d2, e2, hd_3, ht, hy, hdone, hP, hD, hS, hl⟩ ih_1
  refine lv_iload hx hb dL_division_12 (lv_at hl 0 rfl) ?_
  refine lv_if_lt (tgt := 254) hx hb dL_division_14 (by decide) (fun c14 => ?_) (fun c14 => ?_)
  · skip
    have c14 : y9.toInt < 0 := ki_lt.mp c14
    exact krv hx hb hr hlocks hP hK hD hS (_, _, _) (fun j hj hf9 => hdone j (by omega) hj hf9) [0, 1, 2, 3, 4, 5] (by decide +kernel) rfl dL_division_254
  · skip
    have c14 : ¬ y9.toInt < 0 := fun z => c14 (ki_lt.mpr z)
    obtain ⟨fr, efr⟩ : ∃ fr : Nat, fr = n - 1 - t := ⟨_, rfl⟩
    have ey : y9 = nI fr := by rw [ki_eq, nI_toInt (by omega)]; omega
    subst ey
    refine wl_join (pc2 := 39) (fun (stk : List Value) (H : Heap) (locs : List Loc) (ls : Array Slot) => ∃ (wh : Nat), stk = [.int (nI wh)] ∧ ((wh = 1 ∧ (fr = 0 ∨ ll ≤ n - fr)) ∨ (wh = 0 ∧ ¬ (fr = 0 ∨ ll ≤ n - fr))) ∧ va_P D vwCl [(a0, .inl (cI, 60, .inl ad)), (a1, .inl (cI, 60, .inl hf)), (a2, .inl (cI, 61, .inl c2)), (a3, .inl (cI, 61, .inl d2)), (a4, .inl (cI, 61, .inl e2)), (a5, .inl (cI, 6, .inl (kq (nI n) q1 (nI ll) pen q4 q5)))] H ∧ va_D A [(a0, .inl (cI, 60, .inl ad)), (a1, .inl (cI, 60, .inl hf)), (a2, .inl (cI, 61, .inl c2)), (a3, .inl (cI, 61, .inl d2)), (a4, .inl (cI, 61, .inl e2)), (a5, .inl (cI, 6, .inl (kq (nI n) q1 (nI ll) pen q4 q5)))] ∧ va_S A s.heap H locs ∧ lv_has ls 12 [(7, .int (nI fr)), (6, .int (nI n)), (0, .ref a0), (1, .ref a1), (2, .ref a2), (3, .ref a3), (4, .ref a4), (5, .ref a5)]) ?_ (fun j_4 => ?_)
    · skip
      rintro stk H locs ls ⟨wh, rfl, hwh, hP, hD, hS, hl⟩
      refine lv_istore (lv' := [(8, .int (nI wh)), (7, .int (nI fr)), (6, .int (nI n)), (0, .ref a0), (1, .ref a1), (2, .ref a2), (3, .ref a3), (4, .ref a4), (5, .ref a5)]) hx hb dL_division_39 hl (by decide) rfl (fun ls hl => ?_)
      refine wl_join (pc2 := 62) (fun (stk : List Value) (H : Heap) (locs : List Loc) (ls : Array Slot) => ∃ (cv : Int32), stk = [.int cv, .int (nI fr), .ref a2] ∧ ((fr = 0 ∨ ll ≤ n - fr) → cv = kCost ad hf fr n) ∧ va_P D vwCl [(a0, .inl (cI, 60, .inl ad)), (a1, .inl (cI, 60, .inl hf)), (a2, .inl (cI, 61, .inl c2)), (a3, .inl (cI, 61, .inl d2)), (a4, .inl (cI, 61, .inl e2)), (a5, .inl (cI, 6, .inl (kq (nI n) q1 (nI ll) pen q4 q5)))] H ∧ va_D A [(a0, .inl (cI, 60, .inl ad)), (a1, .inl (cI, 60, .inl hf)), (a2, .inl (cI, 61, .inl c2)), (a3, .inl (cI, 61, .inl d2)), (a4, .inl (cI, 61, .inl e2)), (a5, .inl (cI, 6, .inl (kq (nI n) q1 (nI ll) pen q4 q5)))] ∧ va_S A s.heap H locs ∧ lv_has ls 12 [(8, .int (nI wh)), (7, .int (nI fr)), (6, .int (nI n)), (0, .ref a0), (1, .ref a1), (2, .ref a2), (3, .ref a3), (4, .ref a4), (5, .ref a5)]) ?_ (fun j_5 => ?_)
      · skip
        rintro stk H locs ls ⟨cv, rfl, hcv, hP, hD, hS, hl⟩
        refine va_iast (D := D) hx hb hK hP hD hS 2 0 rfl rfl (vp_in_nI (by omega) (by decide)) dL_division_62 (fun H locs hP hD hS => ?_)
        rw [nI_clamp (n := fr) (by omega)] at hP hD
        have hP : va_P D vwCl [(a0, .inl (cI, 60, .inl ad)), (a1, .inl (cI, 60, .inl hf)), (a2, .inl (cI, 61, .inl (upd c2 fr cv))), (a3, .inl (cI, 61, .inl d2)), (a4, .inl (cI, 61, .inl e2)), (a5, .inl (cI, 6, .inl (kq (nI n) q1 (nI ll) pen q4 q5)))] H := hP
        have hD : va_D A [(a0, .inl (cI, 60, .inl ad)), (a1, .inl (cI, 60, .inl hf)), (a2, .inl (cI, 61, .inl (upd c2 fr cv))), (a3, .inl (cI, 61, .inl d2)), (a4, .inl (cI, 61, .inl e2)), (a5, .inl (cI, 6, .inl (kq (nI n) q1 (nI ll) pen q4 q5)))] := hD
        refine lv_aload_n hx hb dL_division_63 rfl (lv_at hl 6 rfl) ?_
        refine lv_iload hx hb dL_division_64 (lv_at hl 1 rfl) ?_
        refine lv_iconst (v := nI 0) hx hb dL_division_66 (by decide) ?_
        refine va_iast (D := D) hx hb hK hP hD hS 3 0 rfl rfl (vp_in_nI (by omega) (by decide)) dL_division_67 (fun H locs hP hD hS => ?_)
        rw [nI_clamp (n := fr) (by omega)] at hP hD
        have hP : va_P D vwCl [(a0, .inl (cI, 60, .inl ad)), (a1, .inl (cI, 60, .inl hf)), (a2, .inl (cI, 61, .inl (upd c2 fr cv))), (a3, .inl (cI, 61, .inl (upd d2 fr (nI 0)))), (a4, .inl (cI, 61, .inl e2)), (a5, .inl (cI, 6, .inl (kq (nI n) q1 (nI ll) pen q4 q5)))] H := hP
        have hD : va_D A [(a0, .inl (cI, 60, .inl ad)), (a1, .inl (cI, 60, .inl hf)), (a2, .inl (cI, 61, .inl (upd c2 fr cv))), (a3, .inl (cI, 61, .inl (upd d2 fr (nI 0)))), (a4, .inl (cI, 61, .inl e2)), (a5, .inl (cI, 6, .inl (kq (nI n) q1 (nI ll) pen q4 q5)))] := hD
        refine lv_aload hx hb dL_division_68 (lv_at hl 7 rfl) ?_
        refine lv_iload hx hb dL_division_70 (lv_at hl 1 rfl) ?_
        refine lv_iload hx hb dL_division_72 (lv_at hl 2 rfl) ?_
        refine va_iast (D := D) hx hb hK hP hD hS 4 0 rfl rfl (vp_in_nI (by omega) (by decide)) dL_division_74 (fun H locs hP hD hS => ?_)
        rw [nI_clamp (n := fr) (by omega)] at hP hD
        have hP : va_P D vwCl [(a0, .inl (cI, 60, .inl ad)), (a1, .inl (cI, 60, .inl hf)), (a2, .inl (cI, 61, .inl (upd c2 fr cv))), (a3, .inl (cI, 61, .inl (upd d2 fr (nI 0)))), (a4, .inl (cI, 61, .inl (upd e2 fr (nI n)))), (a5, .inl (cI, 6, .inl (kq (nI n) q1 (nI ll) pen q4 q5)))] H := hP
        have hD : va_D A [(a0, .inl (cI, 60, .inl ad)), (a1, .inl (cI, 60, .inl hf)), (a2, .inl (cI, 61, .inl (upd c2 fr cv))), (a3, .inl (cI, 61, .inl (upd d2 fr (nI 0)))), (a4, .inl (cI, 61, .inl (upd e2 fr (nI n)))), (a5, .inl (cI, 6, .inl (kq (nI n) q1 (nI ll) pen q4 q5)))] := hD
        refine lv_iload hx hb dL_division_75 (lv_at hl 2 rfl) ?_
        refine lv_aload hx hb dL_division_77 (lv_at hl 8 rfl) ?_
        refine lv_iconst (v := nI 2) hx hb dL_division_79 (by decide) ?_
        refine va_iald (D := D) hx hb hK hP 5 0 rfl rfl (vp_in_nI (by omega) (by decide)) dL_division_80 ?_
        refine wt_i (by rw [nI_clamp (n := 2) (by omega)]) ?_
        refine wt_i (y := nI ll) rfl ?_
        refine lv_isub hx hb dL_division_81 ?_
        refine wt_i (y := (nI n - nI ll)) (rfl) ?_
        refine lv_istore (lv' := [(9, .int (nI n - nI ll)), (8, .int (nI wh)), (7, .int (nI fr)), (6, .int (nI n)), (0, .ref a0), (1, .ref a1), (2, .ref a2), (3, .ref a3), (4, .ref a4), (5, .ref a5)]) hx hb dL_division_82 hl (by decide) rfl (fun ls hl => ?_)
        refine wl_loop (fun (d9 : Nat) (H : Heap) (locs : List Loc) (ls : Array Slot) => ∃ (x9 : Int32) (i : Nat) (c3 : Nat → Int32) (d3 : Nat → Int32) (e3 : Nat → Int32), d9 = n - i ∧ (x9.toInt = (n : Int) - ll - i) ∧ (∀ j, j ≠ fr → c3 j = c2 j) ∧ (∀ j, j ≠ fr → d3 j = d2 j) ∧ (∀ j, j ≠ fr → e3 j = e2 j) ∧ ((fr = 0 ∨ ll ≤ n - fr) → kMn ad hf pen n rc rk fr (kIn9 n ll fr i) (c3 fr) (d3 fr) (e3 fr)) ∧ va_P D vwCl [(a0, .inl (cI, 60, .inl ad)), (a1, .inl (cI, 60, .inl hf)), (a2, .inl (cI, 61, .inl c3)), (a3, .inl (cI, 61, .inl d3)), (a4, .inl (cI, 61, .inl e3)), (a5, .inl (cI, 6, .inl (kq (nI n) q1 (nI ll) pen q4 q5)))] H ∧ va_D A [(a0, .inl (cI, 60, .inl ad)), (a1, .inl (cI, 60, .inl hf)), (a2, .inl (cI, 61, .inl c3)), (a3, .inl (cI, 61, .inl d3)), (a4, .inl (cI, 61, .inl e3)), (a5, .inl (cI, 6, .inl (kq (nI n) q1 (nI ll) pen q4 q5)))] ∧ va_S A s.heap H locs ∧ lv_has ls 12 [(9, .int x9), (8, .int (nI wh)), (7, .int (nI fr)), (6, .int (nI n)), (0, .ref a0), (1, .ref a1), (2, .ref a2), (3, .ref a3), (4, .ref a4), (5, .ref a5)]) ?_ _ ⟨_, 0, _, _, _, rfl, by rw [pk_sub_toInt (by omega) (by omega)]; omega, fun j h => pk_un h, fun j h => pk_un h, fun j h => pk_un h, fun z => by rw [pk_us, pk_us, pk_us, hcv z]; exact kMn_0, hP, hD, hS, lv_sub hl [0, 1, 2, 3, 4, 5, 6, 7, 8, 9] rfl⟩
        rintro d_7 H locs ls ⟨x9, i, c3, d3, e3, hd_8, hx9, hc3, hd3, he3, hmin, hP, hD, hS, hl⟩ ih_6
        refine lv_iload hx hb dL_division_84 (lv_at hl 0 rfl) ?_
        refine lv_iload hx hb dL_division_86 (lv_at hl 2 rfl) ?_
        refine lv_aload hx hb dL_division_88 (lv_at hl 9 rfl) ?_
        refine lv_iconst (v := nI 2) hx hb dL_division_90 (by decide) ?_
        refine va_iald (D := D) hx hb hK hP 5 0 rfl rfl (vp_in_nI (by omega) (by decide)) dL_division_91 ?_
        refine wt_i (by rw [nI_clamp (n := 2) (by omega)]) ?_
        refine wt_i (y := nI ll) rfl ?_
        refine lv_iadd hx hb dL_division_92 ?_
        refine wt_i (nI_add _ _) ?_
        refine lv_icmp_lt (tgt := 248) hx hb dL_division_93 (by decide) (fun c93 => ?_) (fun c93 => ?_)
        · skip
          have c93 : x9.toInt < ((fr + ll : Nat) : Int) := by have h9 := ki_lt.mp c93; rw [nI_toInt (by omega)] at h9; exact h9
          refine lv_iinc (v := (nI fr + Int32.ofInt (-1))) (lv' := [(7, .int (nI fr + Int32.ofInt (-1))), (9, .int x9), (8, .int (nI wh)), (6, .int (nI n)), (0, .ref a0), (1, .ref a1), (2, .ref a2), (3, .ref a3), (4, .ref a4), (5, .ref a5)]) hx hb dL_division_248 hl (k := 2) rfl (rfl) (by decide) rfl (fun ls hl => ?_)
          refine lv_goto (tgt := 12) hx hb dL_division_251 (by decide) ?_
          exact ih_1 _ (by omega) _ _ _ ⟨_, (t + 1), _, _, _, rfl, by omega, by rw [fb_addI (by rw [nI_toInt (by omega), km1]; omega) (by rw [nI_toInt (by omega), km1]; omega), nI_toInt (by omega), km1]; omega, fun j h1 h2 h3 => by
                rcases Nat.eq_or_lt_of_le (show fr ≤ j by omega) with z | z
                · rw [← z] at h3 ⊢
                  exact kMn_fin hn hll hpb hav hdp (by omega) (by omega) (hmin h3)
                · rw [hc3 j (by omega), hd3 j (by omega), he3 j (by omega)]
                  exact hdone j (by omega) h2 h3, hP, hD, hS, lv_sub hl [0, 3, 4, 5, 6, 7, 8, 9] rfl⟩
        · skip
          have c93 : ¬ x9.toInt < ((fr + ll : Nat) : Int) := fun z => c93 (by rw [ki_lt, nI_toInt (by omega)]; exact z)
          obtain ⟨to, eto⟩ : ∃ to : Nat, to = n - ll - i := ⟨_, rfl⟩
          have ex : x9 = nI to := by rw [ki_eq, nI_toInt (by omega)]; omega
          subst ex
          have hm9 := hmin (Or.inr (by omega))
          have hto := hdone to (by omega) (by omega) (Or.inr (by omega))
          have hbd := kDP_bd hn hll hpb hav hdp n to (by omega) (by omega)
          have esum : ((kCost ad hf fr to) + (pen)) + (rc to) = kCe ad hf pen n rc fr to := (if_neg (by omega)).symm
          have ecut : rk to + 1 = kKe n rk to := (if_neg (by omega)).symm
          refine lv_aload_n hx hb dL_division_96 rfl (lv_at hl 6 rfl) ?_
          refine lv_iload hx hb dL_division_97 (lv_at hl 0 rfl) ?_
          refine va_iald (D := D) hx hb hK hP 2 0 rfl rfl (vp_in_nI (by omega) (by decide)) dL_division_99 ?_
          refine wt_i (by rw [nI_clamp (n := to) (by omega)]) ?_
          refine wt_i (y := rc to) (by rw [hc3 to (by omega)]; exact hto.1) ?_
          refine lv_if_lt (tgt := 242) hx hb dL_division_100 (by decide) (fun c100 => ?_) (fun c100 => ?_)
          · skip
            exact absurd (ki_lt.mp c100) (by have z0 := kzero; have := hbd.1; omega)
          · skip
            refine lv_aload_n hx hb dL_division_103 rfl (lv_at hl 4 rfl) ?_
            refine lv_aload_n hx hb dL_division_104 rfl (lv_at hl 5 rfl) ?_
            refine lv_iload hx hb dL_division_105 (lv_at hl 2 rfl) ?_
            refine lv_iload hx hb dL_division_107 (lv_at hl 0 rfl) ?_
            refine kci (wr := [(a2, .inl (cI, 61, .inl c3)), (a3, .inl (cI, 61, .inl d3)), (a4, .inl (cI, 61, .inl e3)), (a5, .inl (cI, 6, .inl (kq (nI n) q1 (nI ll) pen q4 q5)))]) (pre := [(a0, .inl (cI, 60, .inl ad)), (a1, .inl (cI, 60, .inl hf))]) (va_runS (As := [.ref a0, .ref a1, .int (nI fr), .int (nI to)]) (rest := []) ⟨hx, hb, hml, hown, hts⟩ (c_L_cost l D cI cZ cJ H.size a0 a1 ad hf fr to (by omega) (by first | assumption | omega) (by first | assumption | omega) (fun k hk => hav k (by omega))) (va_cwS 4 hts gL_division_L_cost rfl rfl rfl (by decide +kernel) ⟨Nat.le_of_ble_eq_true rfl, Nat.le_of_ble_eq_true rfl⟩) (kpreS hK hP hD [0, 1] (by decide +kernel) rfl) rfl rfl hl.1 rfl (lv_room (Nat.le_of_ble_eq_true rfl)) dL_division_109 ⟨Nat.zero_le _, Nat.zero_le _⟩) hP hD hS hA [0, 1] [2, 3, 4, 5] rfl rfl (by decide +kernel) (by decide +kernel) (fun r_9 _ H locs hw hP hD hS => ?_)
            have hP : va_P D vwCl [(a2, .inl (cI, 61, .inl c3)), (a3, .inl (cI, 61, .inl d3)), (a4, .inl (cI, 61, .inl e3)), (a5, .inl (cI, 6, .inl (kq (nI n) q1 (nI ll) pen q4 q5))), (a0, .inl (cI, 60, .inl ad)), (a1, .inl (cI, 60, .inl hf))] H := hP
            have hD : va_D A [(a2, .inl (cI, 61, .inl c3)), (a3, .inl (cI, 61, .inl d3)), (a4, .inl (cI, 61, .inl e3)), (a5, .inl (cI, 6, .inl (kq (nI n) q1 (nI ll) pen q4 q5))), (a0, .inl (cI, 60, .inl ad)), (a1, .inl (cI, 60, .inl hf))] := hD
            have hr9 : r_9 = kCost ad hf fr to := hw
            refine wt_i hr9 ?_
            refine lv_aload hx hb dL_division_112 (lv_at hl 9 rfl) ?_
            refine lv_iconst (v := nI 3) hx hb dL_division_114 (by decide) ?_
            refine va_iald (D := D) hx hb hK hP 3 0 rfl rfl (vp_in_nI (by omega) (by decide)) dL_division_115 ?_
            refine wt_i (by rw [nI_clamp (n := 3) (by omega)]) ?_
            refine wt_i (y := pen) rfl ?_
            refine lv_iadd hx hb dL_division_116 ?_
            refine lv_aload_n hx hb dL_division_117 rfl (lv_at hl 6 rfl) ?_
            refine lv_iload hx hb dL_division_118 (lv_at hl 0 rfl) ?_
            refine va_iald (D := D) hx hb hK hP 0 0 rfl rfl (vp_in_nI (by omega) (by decide)) dL_division_120 ?_
            refine wt_i (by rw [nI_clamp (n := to) (by omega)]) ?_
            refine wt_i (y := rc to) (by rw [hc3 to (by omega)]; exact hto.1) ?_
            refine lv_iadd hx hb dL_division_121 ?_
            refine lv_istore (lv' := [(10, .int (((kCost ad hf fr to) + pen) + (rc to))), (9, .int (nI to)), (8, .int (nI wh)), (7, .int (nI fr)), (6, .int (nI n)), (0, .ref a0), (1, .ref a1), (2, .ref a2), (3, .ref a3), (4, .ref a4), (5, .ref a5)]) hx hb dL_division_122 hl (by decide) rfl (fun ls hl => ?_)
            refine wl_join (pc2 := 175) (fun (stk : List Value) (H : Heap) (locs : List Loc) (ls : Array Slot) => stk = [] ∧ (((kCost ad hf fr to) + (pen)) + (rc to) < c3 fr ∨ (((kCost ad hf fr to) + (pen)) + (rc to) = c3 fr ∧ ¬ d3 fr < rk to + 1)) ∧ va_P D vwCl [(a2, .inl (cI, 61, .inl c3)), (a3, .inl (cI, 61, .inl d3)), (a4, .inl (cI, 61, .inl e3)), (a5, .inl (cI, 6, .inl (kq (nI n) q1 (nI ll) pen q4 q5))), (a0, .inl (cI, 60, .inl ad)), (a1, .inl (cI, 60, .inl hf))] H ∧ va_D A [(a2, .inl (cI, 61, .inl c3)), (a3, .inl (cI, 61, .inl d3)), (a4, .inl (cI, 61, .inl e3)), (a5, .inl (cI, 6, .inl (kq (nI n) q1 (nI ll) pen q4 q5))), (a0, .inl (cI, 60, .inl ad)), (a1, .inl (cI, 60, .inl hf))] ∧ va_S A s.heap H locs ∧ lv_has ls 12 [(10, .int (((kCost ad hf fr to) + pen) + (rc to))), (9, .int (nI to)), (8, .int (nI wh)), (7, .int (nI fr)), (6, .int (nI n)), (0, .ref a0), (1, .ref a1), (2, .ref a2), (3, .ref a3), (4, .ref a4), (5, .ref a5)]) ?_ (fun j_11 => ?_)
            · skip
              rintro stk H locs ls ⟨rfl, hbt, hP, hD, hS, hl⟩
              refine lv_iconst (v := nI 1) hx hb dL_division_175 (by decide) ?_
              refine lv_goto (tgt := 180) hx hb dL_division_176 (by decide) ?_
              refine lv_istore (lv' := [(11, .int (nI 1)), (10, .int (((kCost ad hf fr to) + pen) + (rc to))), (9, .int (nI to)), (8, .int (nI wh)), (7, .int (nI fr)), (6, .int (nI n)), (0, .ref a0), (1, .ref a1), (2, .ref a2), (3, .ref a3), (4, .ref a4), (5, .ref a5)]) hx hb dL_division_180 hl (by decide) rfl (fun ls hl => ?_)
              refine lv_aload_n hx hb dL_division_182 rfl (lv_at hl 8 rfl) ?_
              refine lv_iload hx hb dL_division_183 (lv_at hl 4 rfl) ?_
              refine lv_iload hx hb dL_division_185 (lv_at hl 0 rfl) ?_
              refine lv_if_eq (tgt := 195) hx hb dL_division_187 (by decide) (fun c187 => ?_) (fun c187 => ?_)
              · skip
                have c187 := keq (a := 1) (b := 0) c187 (by omega) (by omega)
                exact absurd c187 (by decide)
              · skip
                have c187 := kneq (a := 1) (b := 0) c187 (by omega) (by omega)
                refine lv_iload hx hb dL_division_190 (lv_at hl 1 rfl) ?_
                refine lv_goto (tgt := 199) hx hb dL_division_192 (by decide) ?_
                refine va_iast (D := D) hx hb hK hP hD hS 0 0 rfl rfl (vp_in_nI (by omega) (by decide)) dL_division_199 (fun H locs hP hD hS => ?_)
                rw [nI_clamp (n := fr) (by omega)] at hP hD
                have hP : va_P D vwCl [(a2, .inl (cI, 61, .inl (upd c3 fr (((kCost ad hf fr to) + pen) + (rc to))))), (a3, .inl (cI, 61, .inl d3)), (a4, .inl (cI, 61, .inl e3)), (a5, .inl (cI, 6, .inl (kq (nI n) q1 (nI ll) pen q4 q5))), (a0, .inl (cI, 60, .inl ad)), (a1, .inl (cI, 60, .inl hf))] H := hP
                have hD : va_D A [(a2, .inl (cI, 61, .inl (upd c3 fr (((kCost ad hf fr to) + pen) + (rc to))))), (a3, .inl (cI, 61, .inl d3)), (a4, .inl (cI, 61, .inl e3)), (a5, .inl (cI, 6, .inl (kq (nI n) q1 (nI ll) pen q4 q5))), (a0, .inl (cI, 60, .inl ad)), (a1, .inl (cI, 60, .inl hf))] := hD
                refine lv_aload_n hx hb dL_division_200 rfl (lv_at hl 9 rfl) ?_
                refine lv_iload hx hb dL_division_201 (lv_at hl 4 rfl) ?_
                refine lv_iload hx hb dL_division_203 (lv_at hl 0 rfl) ?_
                refine lv_if_eq (tgt := 217) hx hb dL_division_205 (by decide) (fun c205 => ?_) (fun c205 => ?_)
                · skip
                  have c205 := keq (a := 1) (b := 0) c205 (by omega) (by omega)
                  exact absurd c205 (by decide)
                · skip
                  have c205 := kneq (a := 1) (b := 0) c205 (by omega) (by omega)
                  refine lv_aload_n hx hb dL_division_208 rfl (lv_at hl 9 rfl) ?_
                  refine lv_iload hx hb dL_division_209 (lv_at hl 2 rfl) ?_
                  refine va_iald (D := D) hx hb hK hP 1 0 rfl rfl (vp_in_nI (by omega) (by decide)) dL_division_211 ?_
                  refine wt_i (by rw [nI_clamp (n := to) (by omega)]) ?_
                  refine wt_i (y := rk to) (by rw [hd3 to (by omega)]; exact hto.2.1) ?_
                  refine lv_iconst (v := nI 1) hx hb dL_division_212 (by decide) ?_
                  refine lv_iadd hx hb dL_division_213 ?_
                  refine wt_i (y := rk to + 1) (show _ = rk to + 1 from rfl) ?_
                  refine lv_goto (tgt := 221) hx hb dL_division_214 (by decide) ?_
                  refine va_iast (D := D) hx hb hK hP hD hS 1 0 rfl rfl (vp_in_nI (by omega) (by decide)) dL_division_221 (fun H locs hP hD hS => ?_)
                  rw [nI_clamp (n := fr) (by omega)] at hP hD
                  have hP : va_P D vwCl [(a2, .inl (cI, 61, .inl (upd c3 fr (((kCost ad hf fr to) + pen) + (rc to))))), (a3, .inl (cI, 61, .inl (upd d3 fr (rk to + 1)))), (a4, .inl (cI, 61, .inl e3)), (a5, .inl (cI, 6, .inl (kq (nI n) q1 (nI ll) pen q4 q5))), (a0, .inl (cI, 60, .inl ad)), (a1, .inl (cI, 60, .inl hf))] H := hP
                  have hD : va_D A [(a2, .inl (cI, 61, .inl (upd c3 fr (((kCost ad hf fr to) + pen) + (rc to))))), (a3, .inl (cI, 61, .inl (upd d3 fr (rk to + 1)))), (a4, .inl (cI, 61, .inl e3)), (a5, .inl (cI, 6, .inl (kq (nI n) q1 (nI ll) pen q4 q5))), (a0, .inl (cI, 60, .inl ad)), (a1, .inl (cI, 60, .inl hf))] := hD
                  refine lv_aload hx hb dL_division_222 (lv_at hl 10 rfl) ?_
                  refine lv_iload hx hb dL_division_224 (lv_at hl 4 rfl) ?_
                  refine lv_iload hx hb dL_division_226 (lv_at hl 0 rfl) ?_
                  refine lv_if_eq (tgt := 236) hx hb dL_division_228 (by decide) (fun c228 => ?_) (fun c228 => ?_)
                  · skip
                    have c228 := keq (a := 1) (b := 0) c228 (by omega) (by omega)
                    exact absurd c228 (by decide)
                  · skip
                    have c228 := kneq (a := 1) (b := 0) c228 (by omega) (by omega)
                    refine lv_iload hx hb dL_division_231 (lv_at hl 2 rfl) ?_
                    refine lv_goto (tgt := 241) hx hb dL_division_233 (by decide) ?_
                    refine va_iast (D := D) hx hb hK hP hD hS 2 0 rfl rfl (vp_in_nI (by omega) (by decide)) dL_division_241 (fun H locs hP hD hS => ?_)
                    rw [nI_clamp (n := fr) (by omega)] at hP hD
                    have hP : va_P D vwCl [(a2, .inl (cI, 61, .inl (upd c3 fr (((kCost ad hf fr to) + pen) + (rc to))))), (a3, .inl (cI, 61, .inl (upd d3 fr (rk to + 1)))), (a4, .inl (cI, 61, .inl (upd e3 fr (nI to)))), (a5, .inl (cI, 6, .inl (kq (nI n) q1 (nI ll) pen q4 q5))), (a0, .inl (cI, 60, .inl ad)), (a1, .inl (cI, 60, .inl hf))] H := hP
                    have hD : va_D A [(a2, .inl (cI, 61, .inl (upd c3 fr (((kCost ad hf fr to) + pen) + (rc to))))), (a3, .inl (cI, 61, .inl (upd d3 fr (rk to + 1)))), (a4, .inl (cI, 61, .inl (upd e3 fr (nI to)))), (a5, .inl (cI, 6, .inl (kq (nI n) q1 (nI ll) pen q4 q5))), (a0, .inl (cI, 60, .inl ad)), (a1, .inl (cI, 60, .inl hf))] := hD
                    refine lv_iinc (v := nI (to - 1)) (lv' := [(9, .int (nI (to - 1))), (11, .int (nI 1)), (10, .int (((kCost ad hf fr to) + pen) + (rc to))), (8, .int (nI wh)), (7, .int (nI fr)), (6, .int (nI n)), (0, .ref a0), (1, .ref a1), (2, .ref a2), (3, .ref a3), (4, .ref a4), (5, .ref a5)]) hx hb dL_division_242 hl (k := 2) rfl (by exact sb_m1 (by omega)) (by decide) rfl (fun ls hl => ?_)
                    refine lv_goto (tgt := 84) hx hb dL_division_245 (by decide) ?_
                    exact ih_6 _ (by omega) _ _ _ ⟨_, (i + 1), _, _, _, rfl, by rw [nI_toInt (by omega)]; omega, fun j h => by rw [pk_un h]; exact hc3 j h, fun j h => by rw [pk_un h]; exact hd3 j h, fun j h => by rw [pk_un h]; exact he3 j h, fun _ => by rw [pk_us, pk_us, pk_us]; first | exact kMn_yes hm9 (by omega) (by omega) esum ecut hbt | exact kMn_no hm9 (by omega) esum ecut hbn, kPsub hP [4, 5, 0, 1, 2, 3] rfl, hD.sub [4, 5, 0, 1, 2, 3] (by decide) rfl, hS, lv_sub hl [0, 3, 4, 5, 6, 7, 8, 9, 10, 11] rfl⟩
            refine wl_join (pc2 := 179) (fun (stk : List Value) (H : Heap) (locs : List Loc) (ls : Array Slot) => stk = [] ∧ (¬ (((kCost ad hf fr to) + (pen)) + (rc to) < c3 fr ∨ (((kCost ad hf fr to) + (pen)) + (rc to) = c3 fr ∧ ¬ d3 fr < rk to + 1))) ∧ va_P D vwCl [(a2, .inl (cI, 61, .inl c3)), (a3, .inl (cI, 61, .inl d3)), (a4, .inl (cI, 61, .inl e3)), (a5, .inl (cI, 6, .inl (kq (nI n) q1 (nI ll) pen q4 q5))), (a0, .inl (cI, 60, .inl ad)), (a1, .inl (cI, 60, .inl hf))] H ∧ va_D A [(a2, .inl (cI, 61, .inl c3)), (a3, .inl (cI, 61, .inl d3)), (a4, .inl (cI, 61, .inl e3)), (a5, .inl (cI, 6, .inl (kq (nI n) q1 (nI ll) pen q4 q5))), (a0, .inl (cI, 60, .inl ad)), (a1, .inl (cI, 60, .inl hf))] ∧ va_S A s.heap H locs ∧ lv_has ls 12 [(10, .int (((kCost ad hf fr to) + pen) + (rc to))), (9, .int (nI to)), (8, .int (nI wh)), (7, .int (nI fr)), (6, .int (nI n)), (0, .ref a0), (1, .ref a1), (2, .ref a2), (3, .ref a3), (4, .ref a4), (5, .ref a5)]) ?_ (fun j_12 => ?_)
            · skip
              rintro stk H locs ls ⟨rfl, hbn, hP, hD, hS, hl⟩
              refine lv_iconst (v := nI 0) hx hb dL_division_179 (by decide) ?_
              refine lv_istore (lv' := [(11, .int (nI 0)), (10, .int (((kCost ad hf fr to) + pen) + (rc to))), (9, .int (nI to)), (8, .int (nI wh)), (7, .int (nI fr)), (6, .int (nI n)), (0, .ref a0), (1, .ref a1), (2, .ref a2), (3, .ref a3), (4, .ref a4), (5, .ref a5)]) hx hb dL_division_180 hl (by decide) rfl (fun ls hl => ?_)
              refine lv_aload_n hx hb dL_division_182 rfl (lv_at hl 8 rfl) ?_
              refine lv_iload hx hb dL_division_183 (lv_at hl 4 rfl) ?_
              refine lv_iload hx hb dL_division_185 (lv_at hl 0 rfl) ?_
              refine lv_if_eq (tgt := 195) hx hb dL_division_187 (by decide) (fun c187 => ?_) (fun c187 => ?_)
              · skip
                have c187 := keq (a := 0) (b := 0) c187 (by omega) (by omega)
                refine lv_aload_n hx hb dL_division_195 rfl (lv_at hl 8 rfl) ?_
                refine lv_iload hx hb dL_division_196 (lv_at hl 4 rfl) ?_
                refine va_iald (D := D) hx hb hK hP 0 0 rfl rfl (vp_in_nI (by omega) (by decide)) dL_division_198 ?_
                refine wt_i (by rw [nI_clamp (n := fr) (by omega)]) ?_
                refine va_iast (D := D) hx hb hK hP hD hS 0 0 rfl rfl (vp_in_nI (by omega) (by decide)) dL_division_199 (fun H locs hP hD hS => ?_)
                rw [nI_clamp (n := fr) (by omega)] at hP hD
                have hP : va_P D vwCl [(a2, .inl (cI, 61, .inl (upd c3 fr (c3 fr)))), (a3, .inl (cI, 61, .inl d3)), (a4, .inl (cI, 61, .inl e3)), (a5, .inl (cI, 6, .inl (kq (nI n) q1 (nI ll) pen q4 q5))), (a0, .inl (cI, 60, .inl ad)), (a1, .inl (cI, 60, .inl hf))] H := hP
                have hD : va_D A [(a2, .inl (cI, 61, .inl (upd c3 fr (c3 fr)))), (a3, .inl (cI, 61, .inl d3)), (a4, .inl (cI, 61, .inl e3)), (a5, .inl (cI, 6, .inl (kq (nI n) q1 (nI ll) pen q4 q5))), (a0, .inl (cI, 60, .inl ad)), (a1, .inl (cI, 60, .inl hf))] := hD
                refine lv_aload_n hx hb dL_division_200 rfl (lv_at hl 9 rfl) ?_
                refine lv_iload hx hb dL_division_201 (lv_at hl 4 rfl) ?_
                refine lv_iload hx hb dL_division_203 (lv_at hl 0 rfl) ?_
                refine lv_if_eq (tgt := 217) hx hb dL_division_205 (by decide) (fun c205 => ?_) (fun c205 => ?_)
                · skip
                  have c205 := keq (a := 0) (b := 0) c205 (by omega) (by omega)
                  refine lv_aload_n hx hb dL_division_217 rfl (lv_at hl 9 rfl) ?_
                  refine lv_iload hx hb dL_division_218 (lv_at hl 4 rfl) ?_
                  refine va_iald (D := D) hx hb hK hP 1 0 rfl rfl (vp_in_nI (by omega) (by decide)) dL_division_220 ?_
                  refine wt_i (by rw [nI_clamp (n := fr) (by omega)]) ?_
                  refine va_iast (D := D) hx hb hK hP hD hS 1 0 rfl rfl (vp_in_nI (by omega) (by decide)) dL_division_221 (fun H locs hP hD hS => ?_)
                  rw [nI_clamp (n := fr) (by omega)] at hP hD
                  have hP : va_P D vwCl [(a2, .inl (cI, 61, .inl (upd c3 fr (c3 fr)))), (a3, .inl (cI, 61, .inl (upd d3 fr (d3 fr)))), (a4, .inl (cI, 61, .inl e3)), (a5, .inl (cI, 6, .inl (kq (nI n) q1 (nI ll) pen q4 q5))), (a0, .inl (cI, 60, .inl ad)), (a1, .inl (cI, 60, .inl hf))] H := hP
                  have hD : va_D A [(a2, .inl (cI, 61, .inl (upd c3 fr (c3 fr)))), (a3, .inl (cI, 61, .inl (upd d3 fr (d3 fr)))), (a4, .inl (cI, 61, .inl e3)), (a5, .inl (cI, 6, .inl (kq (nI n) q1 (nI ll) pen q4 q5))), (a0, .inl (cI, 60, .inl ad)), (a1, .inl (cI, 60, .inl hf))] := hD
                  refine lv_aload hx hb dL_division_222 (lv_at hl 10 rfl) ?_
                  refine lv_iload hx hb dL_division_224 (lv_at hl 4 rfl) ?_
                  refine lv_iload hx hb dL_division_226 (lv_at hl 0 rfl) ?_
                  refine lv_if_eq (tgt := 236) hx hb dL_division_228 (by decide) (fun c228 => ?_) (fun c228 => ?_)
                  · skip
                    have c228 := keq (a := 0) (b := 0) c228 (by omega) (by omega)
                    refine lv_aload hx hb dL_division_236 (lv_at hl 10 rfl) ?_
                    refine lv_iload hx hb dL_division_238 (lv_at hl 4 rfl) ?_
                    refine va_iald (D := D) hx hb hK hP 2 0 rfl rfl (vp_in_nI (by omega) (by decide)) dL_division_240 ?_
                    refine wt_i (by rw [nI_clamp (n := fr) (by omega)]) ?_
                    refine va_iast (D := D) hx hb hK hP hD hS 2 0 rfl rfl (vp_in_nI (by omega) (by decide)) dL_division_241 (fun H locs hP hD hS => ?_)
                    rw [nI_clamp (n := fr) (by omega)] at hP hD
                    have hP : va_P D vwCl [(a2, .inl (cI, 61, .inl (upd c3 fr (c3 fr)))), (a3, .inl (cI, 61, .inl (upd d3 fr (d3 fr)))), (a4, .inl (cI, 61, .inl (upd e3 fr (e3 fr)))), (a5, .inl (cI, 6, .inl (kq (nI n) q1 (nI ll) pen q4 q5))), (a0, .inl (cI, 60, .inl ad)), (a1, .inl (cI, 60, .inl hf))] H := hP
                    have hD : va_D A [(a2, .inl (cI, 61, .inl (upd c3 fr (c3 fr)))), (a3, .inl (cI, 61, .inl (upd d3 fr (d3 fr)))), (a4, .inl (cI, 61, .inl (upd e3 fr (e3 fr)))), (a5, .inl (cI, 6, .inl (kq (nI n) q1 (nI ll) pen q4 q5))), (a0, .inl (cI, 60, .inl ad)), (a1, .inl (cI, 60, .inl hf))] := hD
                    refine lv_iinc (v := nI (to - 1)) (lv' := [(9, .int (nI (to - 1))), (11, .int (nI 0)), (10, .int (((kCost ad hf fr to) + pen) + (rc to))), (8, .int (nI wh)), (7, .int (nI fr)), (6, .int (nI n)), (0, .ref a0), (1, .ref a1), (2, .ref a2), (3, .ref a3), (4, .ref a4), (5, .ref a5)]) hx hb dL_division_242 hl (k := 2) rfl (by exact sb_m1 (by omega)) (by decide) rfl (fun ls hl => ?_)
                    refine lv_goto (tgt := 84) hx hb dL_division_245 (by decide) ?_
                    exact ih_6 _ (by omega) _ _ _ ⟨_, (i + 1), _, _, _, rfl, by rw [nI_toInt (by omega)]; omega, fun j h => by rw [pk_un h]; exact hc3 j h, fun j h => by rw [pk_un h]; exact hd3 j h, fun j h => by rw [pk_un h]; exact he3 j h, fun _ => by rw [pk_us, pk_us, pk_us]; first | exact kMn_yes hm9 (by omega) (by omega) esum ecut hbt | exact kMn_no hm9 (by omega) esum ecut hbn, kPsub hP [4, 5, 0, 1, 2, 3] rfl, hD.sub [4, 5, 0, 1, 2, 3] (by decide) rfl, hS, lv_sub hl [0, 3, 4, 5, 6, 7, 8, 9, 10, 11] rfl⟩
                  · skip
                    have c228 := kneq (a := 0) (b := 0) c228 (by omega) (by omega)
                    exact absurd rfl c228
                · skip
                  have c205 := kneq (a := 0) (b := 0) c205 (by omega) (by omega)
                  exact absurd rfl c205
              · skip
                have c187 := kneq (a := 0) (b := 0) c187 (by omega) (by omega)
                exact absurd rfl c187
            refine lv_aload_n hx hb dL_division_124 rfl (lv_at hl 7 rfl) ?_
            refine lv_iload hx hb dL_division_125 (lv_at hl 3 rfl) ?_
            refine va_iald (D := D) hx hb hK hP 0 0 rfl rfl (vp_in_nI (by omega) (by decide)) dL_division_127 ?_
            refine wt_i (by rw [nI_clamp (n := fr) (by omega)]) ?_
            refine lv_if_lt (tgt := 175) hx hb dL_division_128 (by decide) (fun c128 => ?_) (fun c128 => ?_)
            · skip
              exact absurd c128 (kMn_pos hn hll hpb hav hdp (by omega) hm9)
            · skip
              refine lv_iload hx hb dL_division_131 (lv_at hl 0 rfl) ?_
              refine lv_aload_n hx hb dL_division_133 rfl (lv_at hl 7 rfl) ?_
              refine lv_iload hx hb dL_division_134 (lv_at hl 3 rfl) ?_
              refine va_iald (D := D) hx hb hK hP 0 0 rfl rfl (vp_in_nI (by omega) (by decide)) dL_division_136 ?_
              refine wt_i (by rw [nI_clamp (n := fr) (by omega)]) ?_
              refine lv_icmp_lt (tgt := 175) hx hb dL_division_137 (by decide) (fun c137 => ?_) (fun c137 => ?_)
              · skip
                exact j_11 _ _ _ _ ⟨rfl, Or.inl c137, hP, hD, hS, lv_sub hl [0, 1, 2, 3, 4, 5, 6, 7, 8, 9, 10] rfl⟩
              · skip
                refine lv_iload hx hb dL_division_140 (lv_at hl 0 rfl) ?_
                refine lv_aload_n hx hb dL_division_142 rfl (lv_at hl 7 rfl) ?_
                refine lv_iload hx hb dL_division_143 (lv_at hl 3 rfl) ?_
                refine va_iald (D := D) hx hb hK hP 0 0 rfl rfl (vp_in_nI (by omega) (by decide)) dL_division_145 ?_
                refine wt_i (by rw [nI_clamp (n := fr) (by omega)]) ?_
                refine lv_icmp_ne (tgt := 179) hx hb dL_division_146 (by decide) (fun c146 => ?_) (fun c146 => ?_)
                · skip
                  exact j_12 _ _ _ _ ⟨rfl, fun z => z.elim c137 (fun z => c146 z.1), hP, hD, hS, lv_sub hl [0, 1, 2, 3, 4, 5, 6, 7, 8, 9, 10] rfl⟩
                · skip
                  refine lv_aload_n hx hb dL_division_149 rfl (lv_at hl 8 rfl) ?_
                  refine lv_iload hx hb dL_division_150 (lv_at hl 1 rfl) ?_
                  refine va_iald (D := D) hx hb hK hP 1 0 rfl rfl (vp_in_nI (by omega) (by decide)) dL_division_152 ?_
                  refine wt_i (by rw [nI_clamp (n := to) (by omega)]) ?_
                  refine wt_i (y := rk to) (by rw [hd3 to (by omega)]; exact hto.2.1) ?_
                  refine lv_iconst (v := nI 1) hx hb dL_division_153 (by decide) ?_
                  refine lv_iadd hx hb dL_division_154 ?_
                  refine wt_i (y := rk to + 1) (show _ = rk to + 1 from rfl) ?_
                  refine lv_aload_n hx hb dL_division_155 rfl (lv_at hl 8 rfl) ?_
                  refine lv_iload hx hb dL_division_156 (lv_at hl 3 rfl) ?_
                  refine va_iald (D := D) hx hb hK hP 1 0 rfl rfl (vp_in_nI (by omega) (by decide)) dL_division_158 ?_
                  refine wt_i (by rw [nI_clamp (n := fr) (by omega)]) ?_
                  refine lv_icmp_lt (tgt := 175) hx hb dL_division_159 (by decide) (fun c159 => ?_) (fun c159 => ?_)
                  · skip
                    exact j_11 _ _ _ _ ⟨rfl, Or.inr ⟨c146, fun z => by rw [ki_lt] at z c159; omega⟩, hP, hD, hS, lv_sub hl [0, 1, 2, 3, 4, 5, 6, 7, 8, 9, 10] rfl⟩
                  · skip
                    refine lv_aload_n hx hb dL_division_162 rfl (lv_at hl 8 rfl) ?_
                    refine lv_iload hx hb dL_division_163 (lv_at hl 1 rfl) ?_
                    refine va_iald (D := D) hx hb hK hP 1 0 rfl rfl (vp_in_nI (by omega) (by decide)) dL_division_165 ?_
                    refine wt_i (by rw [nI_clamp (n := to) (by omega)]) ?_
                    refine wt_i (y := rk to) (by rw [hd3 to (by omega)]; exact hto.2.1) ?_
                    refine lv_iconst (v := nI 1) hx hb dL_division_166 (by decide) ?_
                    refine lv_iadd hx hb dL_division_167 ?_
                    refine wt_i (y := rk to + 1) (show _ = rk to + 1 from rfl) ?_
                    refine lv_aload_n hx hb dL_division_168 rfl (lv_at hl 8 rfl) ?_
                    refine lv_iload hx hb dL_division_169 (lv_at hl 3 rfl) ?_
                    refine va_iald (D := D) hx hb hK hP 1 0 rfl rfl (vp_in_nI (by omega) (by decide)) dL_division_171 ?_
                    refine wt_i (by rw [nI_clamp (n := fr) (by omega)]) ?_
                    refine lv_icmp_ne (tgt := 179) hx hb dL_division_172 (by decide) (fun c172 => ?_) (fun c172 => ?_)
                    · skip
                      exact j_12 _ _ _ _ ⟨rfl, fun z => z.elim c137 (fun z => by have h9 := z.2; rw [ki_lt] at c159 h9; rw [ki_eq] at c172; omega), hP, hD, hS, lv_sub hl [0, 1, 2, 3, 4, 5, 6, 7, 8, 9, 10] rfl⟩
                    · skip
                      exact j_11 _ _ _ _ ⟨rfl, Or.inr ⟨c146, fun z => by rw [c172, ki_lt] at z; omega⟩, hP, hD, hS, lv_sub hl [0, 1, 2, 3, 4, 5, 6, 7, 8, 9, 10] rfl⟩
      refine lv_aload_n hx hb dL_division_41 rfl (lv_at hl 5 rfl) ?_
      refine lv_iload hx hb dL_division_42 (lv_at hl 1 rfl) ?_
      refine lv_iload hx hb dL_division_44 (lv_at hl 0 rfl) ?_
      refine lv_if_eq (tgt := 61) hx hb dL_division_46 (by decide) (fun c46 => ?_) (fun c46 => ?_)
      · skip
        have c46 := keq (a := wh) (b := 0) c46 (by omega) (by omega)
        refine lv_iconst (v := (-1 : Int32)) hx hb dL_division_61 (by decide) ?_
        exact j_5 _ _ _ _ ⟨(-1 : Int32), rfl, fun z => absurd z (by omega), hP, hD, hS, lv_sub hl [0, 1, 2, 3, 4, 5, 6, 7, 8] rfl⟩
      · skip
        have c46 := kneq (a := wh) (b := 0) c46 (by omega) (by omega)
        refine lv_aload_n hx hb dL_division_49 rfl (lv_at hl 3 rfl) ?_
        refine lv_aload_n hx hb dL_division_50 rfl (lv_at hl 4 rfl) ?_
        refine lv_iload hx hb dL_division_51 (lv_at hl 1 rfl) ?_
        refine lv_iload hx hb dL_division_53 (lv_at hl 2 rfl) ?_
        refine kci (wr := [(a2, .inl (cI, 61, .inl c2)), (a3, .inl (cI, 61, .inl d2)), (a4, .inl (cI, 61, .inl e2)), (a5, .inl (cI, 6, .inl (kq (nI n) q1 (nI ll) pen q4 q5)))]) (pre := [(a0, .inl (cI, 60, .inl ad)), (a1, .inl (cI, 60, .inl hf))]) (va_runS (As := [.ref a0, .ref a1, .int (nI fr), .int (nI n)]) (rest := [.int (nI fr), .ref a2]) ⟨hx, hb, hml, hown, hts⟩ (c_L_cost l D cI cZ cJ H.size a0 a1 ad hf fr n (by omega) (by first | assumption | omega) (by first | assumption | omega) (by first | assumption | omega)) (va_cwS 4 hts gL_division_L_cost rfl rfl rfl (by decide +kernel) ⟨Nat.le_of_ble_eq_true rfl, Nat.le_of_ble_eq_true rfl⟩) (kpreS hK hP hD [0, 1] (by decide +kernel) rfl) rfl rfl hl.1 rfl (lv_room (Nat.le_of_ble_eq_true rfl)) dL_division_55 ⟨Nat.zero_le _, Nat.zero_le _⟩) hP hD hS hA [0, 1] [2, 3, 4, 5] rfl rfl (by decide +kernel) (by decide +kernel) (fun r_13 _ H locs hw hP hD hS => ?_)
        have hP : va_P D vwCl [(a2, .inl (cI, 61, .inl c2)), (a3, .inl (cI, 61, .inl d2)), (a4, .inl (cI, 61, .inl e2)), (a5, .inl (cI, 6, .inl (kq (nI n) q1 (nI ll) pen q4 q5))), (a0, .inl (cI, 60, .inl ad)), (a1, .inl (cI, 60, .inl hf))] H := hP
        have hD : va_D A [(a2, .inl (cI, 61, .inl c2)), (a3, .inl (cI, 61, .inl d2)), (a4, .inl (cI, 61, .inl e2)), (a5, .inl (cI, 6, .inl (kq (nI n) q1 (nI ll) pen q4 q5))), (a0, .inl (cI, 60, .inl ad)), (a1, .inl (cI, 60, .inl hf))] := hD
        have hr9 : r_13 = kCost ad hf fr n := hw
        refine wt_i hr9 ?_
        refine lv_goto (tgt := 62) hx hb dL_division_58 (by decide) ?_
        exact j_5 _ _ _ _ ⟨kCost ad hf fr n, rfl, fun _ => rfl, kPsub hP [4, 5, 0, 1, 2, 3] rfl, hD.sub [4, 5, 0, 1, 2, 3] (by decide) rfl, hS, lv_sub hl [0, 1, 2, 3, 4, 5, 6, 7, 8] rfl⟩
    refine lv_iload hx hb dL_division_17 (lv_at hl 1 rfl) ?_
    refine lv_iload hx hb dL_division_19 (lv_at hl 0 rfl) ?_
    refine lv_isub hx hb dL_division_21 ?_
    refine wt_i (pk_sub (by omega)) ?_
    refine lv_aload hx hb dL_division_22 (lv_at hl 7 rfl) ?_
    refine lv_iconst (v := nI 2) hx hb dL_division_24 (by decide) ?_
    refine va_iald (D := D) hx hb hK hP 5 0 rfl rfl (vp_in_nI (by omega) (by decide)) dL_division_25 ?_
    refine wt_i (by rw [nI_clamp (n := 2) (by omega)]) ?_
    refine wt_i (y := nI ll) rfl ?_
    refine lv_icmp_ge (tgt := 34) hx hb dL_division_26 (by decide) (fun c26 => ?_) (fun c26 => ?_)
    · skip
      have c26 := kle (a := ll) (b := (n - fr)) c26 (by omega) (by omega)
      refine lv_iconst (v := nI 1) hx hb dL_division_34 (by decide) ?_
      refine lv_goto (tgt := 39) hx hb dL_division_35 (by decide) ?_
      exact j_4 _ _ _ _ ⟨1, rfl, Or.inl ⟨rfl, by omega⟩, hP, hD, hS, lv_sub hl [0, 1, 2, 3, 4, 5, 6, 7] rfl⟩
    · skip
      have c26 := knle (a := ll) (b := (n - fr)) c26 (by omega) (by omega)
      refine lv_iload hx hb dL_division_29 (lv_at hl 0 rfl) ?_
      refine lv_if_ne (tgt := 38) hx hb dL_division_31 (by decide) (fun c31 => ?_) (fun c31 => ?_)
      · skip
        have c31 := kneq (a := fr) (b := 0) c31 (by omega) (by omega)
        refine lv_iconst (v := nI 0) hx hb dL_division_38 (by decide) ?_
        exact j_4 _ _ _ _ ⟨0, rfl, Or.inr ⟨rfl, by omega⟩, hP, hD, hS, lv_sub hl [0, 1, 2, 3, 4, 5, 6, 7] rfl⟩
      · skip
        have c31 := keq (a := fr) (b := 0) c31 (by omega) (by omega)
        refine lv_iconst (v := nI 1) hx hb dL_division_34 (by decide) ?_
        refine lv_goto (tgt := 39) hx hb dL_division_35 (by decide) ?_
        exact j_4 _ _ _ _ ⟨1, rfl, Or.inl ⟨rfl, by omega⟩, hP, hD, hS, lv_sub hl [0, 1, 2, 3, 4, 5, 6, 7] rfl⟩

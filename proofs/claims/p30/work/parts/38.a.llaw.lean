/-! the law's loop: what holds at its head -/
abbrev lwA (s : State) : Nat → Prop := fun q => s.heap.size ≤ q
def lwE (p : Program) (l : Launch) (s : State) (m : MethodId) (c : Code) (D : va_G) (cI cZ cJ : ClassId) (b L : Nat) (xs : Nat → Int32) : Prop :=
  p.tables.exec = Jvm.exec ∧ c.code = code ∧ c.maxLocals = 22 ∧ s.vm.findClass RL = some m.cls ∧ (∀ w ∈ wsL_law, w.before #[Value.ref b] s = true) ∧ va_X b L xs s s.heap ∧ b < s.heap.size ∧ va_K D vwCl (tyA cI cZ cJ) s ∧ kEx (lwA s) s s.heap ∧ l.stackTraces = false ∧ L ≤ 260
def lwI (s : State) (D : va_G) (cI cZ cJ : ClassId) (b i : Nat) (H : Heap) (locs : List Loc) (ls : Array Slot) : Prop :=
  ∃ (v hf : Nat → Int32) (n len ll : Nat) (pen bf bl : Int32) (o6 a1 a2 a3 a4 a5 a6 a7 a8 a9 aA : Nat) (ad gg c1 d1 e1 r1 o1 : Nat → Int32) (w6 : va_W), kOk v hf n len ll pen bf bl ∧ kSt cI cZ v hf n len ll pen bf bl 0 o6 w6 ∧ va_P D vwCl ([(a1, .inl (cI, 60, .inl v)), (a2, .inl (cI, 60, .inl hf)), (a3, .inl (cI, 60, .inl ad)), (a4, .inl (cI, 12, .inl gg)), (a5, .inl (cI, 61, .inl c1)), (a6, .inl (cI, 61, .inl d1)), (a7, .inl (cI, 61, .inl e1)), (a8, .inl (cI, 6, .inl (kq (nI n) (nI len) (nI ll) pen bf bl))), (a9, .inl (cI, 60, .inl r1)), (aA, .inl (cI, 60, .inl o1))] ++ w6) H ∧ va_D (lwA s) ([(a1, .inl (cI, 60, .inl v)), (a2, .inl (cI, 60, .inl hf)), (a3, .inl (cI, 60, .inl ad)), (a4, .inl (cI, 12, .inl gg)), (a5, .inl (cI, 61, .inl c1)), (a6, .inl (cI, 61, .inl d1)), (a7, .inl (cI, 61, .inl e1)), (a8, .inl (cI, 6, .inl (kq (nI n) (nI len) (nI ll) pen bf bl))), (a9, .inl (cI, 60, .inl r1)), (aA, .inl (cI, 60, .inl o1))] ++ w6) ∧ va_S (lwA s) s.heap H locs ∧ lv_has ls 22 [(0, .ref b), (1, .ref o6), (2, .ref a1), (3, .ref a2), (4, .ref a3), (5, .ref a4), (6, .ref a5), (7, .ref a6), (8, .ref a7), (9, .ref a9), (10, .ref aA), (11, .ref a8), (12, .int (nI i))]
theorem kin_of {x lo hi : Int32} (h1 : ¬ x < lo) (h2 : x ≤ hi) : kin x lo hi = nI 1 := by
  unfold kin
  rw [if_neg h1, if_neg (Int32.not_lt.mpr h2)]
  rfl
theorem knge {a k : Nat} (h : k ≤ a) (ha : a < 2 ^ 31) : ¬ nI a < nI k := fun z => by have := klt z ha (by omega); omega
theorem kval {k c : Nat} (h : k ≤ 10000 + c) (hc : c ≤ 10000) : ¬ (nI k - nI c) < (-10000 : Int32) ∧ (nI k - nI c) ≤ nI 10000 := by
  have e := pk_sub_toInt (a := k) (b := c) (by omega) (by omega)
  have m1 : (-10000 : Int32).toInt = -10000 := by decide
  rw [ki_lt, ki_le, e, m1, nI_toInt (by omega)]
  omega
theorem wl_join2 {p : Program} {l : Launch} {e : Env} {R : Room} {s : State} {m : MethodId} {args : Array Value} {below : List Frame} {meth : Method} {c : Code} {H : Heap} {locs : List Loc} {cells slots : Nat} {Q : State → Prop} {g : JFrame} (pc2 : Nat) (I : List Value → Heap → List Loc → Array Slot → Prop)
    (k : ∀ (stk : List Value) (H : Heap) (locs : List Loc) (ls : Array Slot), I stk H locs ls → W p l e R s m args below meth c H locs cells slots Q (F0 m pc2 ls stk))
    (kk : (∀ (stk : List Value) (H : Heap) (locs : List Loc) (ls : Array Slot), I stk H locs ls → W p l e R s m args below meth c H locs cells slots Q (F0 m pc2 ls stk)) → W p l e R s m args below meth c H locs cells slots Q g) : W p l e R s m args below meth c H locs cells slots Q g := kk k

set_option maxHeartbeats 4000000 in
set_option maxRecDepth 100000 in
theorem t_so {p : Program} {l : Launch} {e : Env} {s : State} {m : MethodId} {below : List Frame} {meth : Method} {c : Code} {Q : State → Prop} {D : va_G} {cI cZ cJ : ClassId} {b L i cells slots : Nat} {xs : Nat → Int32} {H : Heap} {locs : List Loc} {ls : Array Slot} {v hf : Nat → Int32} {n len ll : Nat} {pen bf bl : Int32} {o6 a1 a2 a3 a4 a5 a6 a7 a8 a9 aA : Nat} {ad gg c1 d1 e1 r1 o1 : Nat → Int32} {w6 : va_W} {z9 tl9 : Int32} (E : lwE p l s m c D cI cZ cJ b L xs) (hi70 : i < 70) (hrc : cells + 2 ≤ room_1.cells) (hrs : slots + 12 ≤ room_1.slots) (kk : ∀ (H : Heap) (locs : List Loc) (ls : Array Slot), lwI s D cI cZ cJ b (i + 1) H locs ls → W p l e room_1 s m #[Value.ref b] below meth c H locs (cells + 2) (slots + 12) Q (F0 m 97 ls [])) (hok : kOk v hf n len ll pen bf bl) (hst : kSt cI cZ v hf n len ll pen bf bl 0 o6 w6) (hP : va_P D vwCl ([(a1, .inl (cI, 60, .inl v)), (a2, .inl (cI, 60, .inl hf)), (a3, .inl (cI, 60, .inl ad)), (a4, .inl (cI, 12, .inl gg)), (a5, .inl (cI, 61, .inl c1)), (a6, .inl (cI, 61, .inl d1)), (a7, .inl (cI, 61, .inl e1)), (a8, .inl (cI, 6, .inl (kq (nI n) (nI len) (nI ll) pen bf bl))), (a9, .inl (cI, 60, .inl r1)), (aA, .inl (cI, 60, .inl o1))] ++ w6) H) (hD : va_D (lwA s) ([(a1, .inl (cI, 60, .inl v)), (a2, .inl (cI, 60, .inl hf)), (a3, .inl (cI, 60, .inl ad)), (a4, .inl (cI, 12, .inl gg)), (a5, .inl (cI, 61, .inl c1)), (a6, .inl (cI, 61, .inl d1)), (a7, .inl (cI, 61, .inl e1)), (a8, .inl (cI, 6, .inl (kq (nI n) (nI len) (nI ll) pen bf bl))), (a9, .inl (cI, 60, .inl r1)), (aA, .inl (cI, 60, .inl o1))] ++ w6)) (hS : va_S (lwA s) s.heap H locs) (hl : lv_has ls 22 [(0, .ref b), (1, .ref o6), (2, .ref a1), (3, .ref a2), (4, .ref a3), (5, .ref a4), (6, .ref a5), (7, .ref a6), (8, .ref a7), (9, .ref a9), (10, .ref aA), (11, .ref a8), (12, .int (nI i)), (13, .int z9), (17, .int tl9), (18, .int tl9)]) : W p l e room_1 s m #[Value.ref b] below meth c H locs cells slots Q (F0 m 738 ls []) := by
  obtain ⟨hx, hb, hml, hown, hts, hX, hbl, hK, hE, hlf, hL⟩ := id E
  obtain ⟨hn, hbit, hln1, hln2, hll, hlm, hvb, hpb, hbb, hfb⟩ := id hok
  have hA : ∀ q : Nat, s.heap.size ≤ q → lwA s q := fun _ h => h
  have hbA : ¬ lwA s b := Nat.not_le.mpr hbl
  refine lv_iload hx hb dL_law_738 (lv_at hl 15 rfl) ?_
  refine lv_iload hx hb dL_law_740 (lv_at hl 14 rfl) ?_
  refine lv_icmp_ne (tgt := 774) hx hb dL_law_742 (by decide) (fun c742 => ?_) (fun c742 => ?_)
  · skip
    exact absurd rfl c742
  · skip
    refine lv_aload_n hx hb dL_law_745 rfl (lv_at hl 1 rfl) ?_
    refine lv_iload hx hb dL_law_746 (lv_at hl 13 rfl) ?_
    refine lv_iconst (v := nI 3) hx hb dL_law_748 (by decide) ?_
    refine lv_ishr hx hb dL_law_749 ?_
    refine lv_aload_n hx hb dL_law_750 rfl (lv_at hl 2 rfl) ?_
    refine lv_aload_n hx hb dL_law_751 rfl (lv_at hl 3 rfl) ?_
    refine lv_aload hx hb dL_law_752 (lv_at hl 4 rfl) ?_
    refine lv_aload hx hb dL_law_754 (lv_at hl 5 rfl) ?_
    refine lv_aload hx hb dL_law_756 (lv_at hl 6 rfl) ?_
    refine lv_aload hx hb dL_law_758 (lv_at hl 7 rfl) ?_
    refine lv_aload hx hb dL_law_760 (lv_at hl 8 rfl) ?_
    refine lv_aload hx hb dL_law_762 (lv_at hl 11 rfl) ?_
    refine lv_aload hx hb dL_law_764 (lv_at hl 9 rfl) ?_
    refine lv_aload hx hb dL_law_766 (lv_at hl 10 rfl) ?_
    refine klxi (X := [(a1, .inl (cI, 60, .inl v)), (a2, .inl (cI, 60, .inl hf)), (a3, .inl (cI, 60, .inl ad)), (a4, .inl (cI, 12, .inl gg)), (a5, .inl (cI, 61, .inl c1)), (a6, .inl (cI, 61, .inl d1)), (a7, .inl (cI, 61, .inl e1)), (a8, .inl (cI, 6, .inl (kq (nI n) (nI len) (nI ll) pen bf bl))), (a9, .inl (cI, 60, .inl r1)), (aA, .inl (cI, 60, .inl o1))]) (pl := w6) (wr := []) (pre := [(a1, .inl (cI, 60, .inl v)), (a2, .inl (cI, 60, .inl hf)), (a3, .inl (cI, 60, .inl ad)), (a4, .inl (cI, 12, .inl gg)), (a5, .inl (cI, 61, .inl c1)), (a6, .inl (cI, 61, .inl d1)), (a7, .inl (cI, 61, .inl e1)), (a8, .inl (cI, 6, .inl (kq (nI n) (nI len) (nI ll) pen bf bl))), (a9, .inl (cI, 60, .inl r1)), (aA, .inl (cI, 60, .inl o1))]) (outC := fun (u : va_W × va_W) => u.1) (outW := fun (u : va_W × va_W) => u.2) (va_runS (As := [.ref o6, .int (z9 >>> (nI 3 &&& 31)), .ref a1, .ref a2, .ref a3, .ref a4, .ref a5, .ref a6, .ref a7, .ref a8, .ref a9, .ref aA]) (rest := []) ⟨hx, hb, hml, hown, hts⟩ (c_L_isSo l hlf D cI cZ cJ H.size v hf n len ll pen bf bl o6 w6 (z9 >>> (nI 3 &&& 31)) a1 a2 a3 a4 a5 a6 a7 a8 a9 aA ad gg c1 d1 e1 r1 o1 hok hst) (va_cwS 12 hts gL_law_L_isSo rfl rfl rfl (by decide +kernel) ⟨Nat.le_of_ble_eq_true rfl, Nat.le_of_ble_eq_true rfl⟩) (kpreHX hK hP hD hS hA hE [0, 1, 2, 3, 4, 5, 6, 7, 8, 9] (by decide +kernel) rfl) rfl rfl hl.1 rfl (lv_room (Nat.le_of_ble_eq_true rfl)) dL_law_768 ⟨by show cells + 2 ≤ room_1.cells; omega, by show slots + 12 ≤ room_1.slots; omega⟩) hP hD hS hA [0, 1, 2, 3, 4, 5, 6, 7, 8, 9] [] rfl rfl (by decide +kernel) (by decide +kernel) (fun r_1 u9 H locs hw hP hD hS => ?_)
    obtain ⟨c_3, w_2⟩ := u9
    obtain ⟨hr9, ad2_4, g2_5, c2_6, d2_7, e2_8, r2_9, o2_10, ec9, hst⟩ := hw
    have ec9 : c_3 = [(a1, .inl (cI, 60, .inl v)), (a2, .inl (cI, 60, .inl hf)), (a3, .inl (cI, 60, .inl ad2_4)), (a4, .inl (cI, 12, .inl g2_5)), (a5, .inl (cI, 61, .inl c2_6)), (a6, .inl (cI, 61, .inl d2_7)), (a7, .inl (cI, 61, .inl e2_8)), (a8, .inl (cI, 6, .inl (kq (nI n) (nI len) (nI ll) pen bf bl))), (a9, .inl (cI, 60, .inl r2_9)), (aA, .inl (cI, 60, .inl o2_10))] := ec9
    subst ec9
    have hP : va_P D vwCl ([(a1, .inl (cI, 60, .inl v)), (a2, .inl (cI, 60, .inl hf)), (a3, .inl (cI, 60, .inl ad2_4)), (a4, .inl (cI, 12, .inl g2_5)), (a5, .inl (cI, 61, .inl c2_6)), (a6, .inl (cI, 61, .inl d2_7)), (a7, .inl (cI, 61, .inl e2_8)), (a8, .inl (cI, 6, .inl (kq (nI n) (nI len) (nI ll) pen bf bl))), (a9, .inl (cI, 60, .inl r2_9)), (aA, .inl (cI, 60, .inl o2_10))] ++ w_2) H := hP
    have hD : va_D (lwA s) ([(a1, .inl (cI, 60, .inl v)), (a2, .inl (cI, 60, .inl hf)), (a3, .inl (cI, 60, .inl ad2_4)), (a4, .inl (cI, 12, .inl g2_5)), (a5, .inl (cI, 61, .inl c2_6)), (a6, .inl (cI, 61, .inl d2_7)), (a7, .inl (cI, 61, .inl e2_8)), (a8, .inl (cI, 6, .inl (kq (nI n) (nI len) (nI ll) pen bf bl))), (a9, .inl (cI, 60, .inl r2_9)), (aA, .inl (cI, 60, .inl o2_10))] ++ w_2) := hD
    refine wt_i hr9 ?_
    refine lv_if_ne (tgt := 776) hx hb dL_law_771 (by decide) (fun c771 => ?_) (fun c771 => ?_)
    · skip
      have c771 := kneq (a := 1) (b := 0) c771 (by omega) (by omega)
      refine lv_iinc (v := nI (i + 1)) (lv' := [(12, .int (nI (i + 1))), (0, .ref b), (1, .ref o6), (2, .ref a1), (3, .ref a2), (4, .ref a3), (5, .ref a4), (6, .ref a5), (7, .ref a6), (8, .ref a7), (9, .ref a9), (10, .ref aA), (11, .ref a8), (13, .int z9), (17, .int tl9), (18, .int tl9)]) hx hb dL_law_776 hl (k := 12) rfl (by exact nI_add _ 1) (by decide) rfl (fun ls hl => ?_)
      refine lv_goto (tgt := 97) hx hb dL_law_779 (by decide) ?_
      refine W.widen (k := cells + 2) (n := slots + 12) (by show cells + 2 ≤ cells + 2; omega) (by show slots + 12 ≤ slots + 12; omega) ?_
      exact kk _ _ _ ⟨_, _, _, _, _, _, _, _, _, _, _, _, _, _, _, _, _, _, _, _, _, _, _, _, _, _, _, hok, hst, hP, hD, hS, lv_sub hl [1, 2, 3, 4, 5, 6, 7, 8, 9, 10, 11, 12, 0] rfl⟩
    · skip
      have c771 := keq (a := 1) (b := 0) c771 (by omega) (by omega)
      exact absurd c771 (by decide)

set_option maxHeartbeats 4000000 in
set_option maxRecDepth 100000 in
theorem t_add {p : Program} {l : Launch} {e : Env} {s : State} {m : MethodId} {below : List Frame} {meth : Method} {c : Code} {Q : State → Prop} {D : va_G} {cI cZ cJ : ClassId} {b L i cells slots : Nat} {xs : Nat → Int32} {H : Heap} {locs : List Loc} {ls : Array Slot} {v hf : Nat → Int32} {n len ll : Nat} {pen bf bl : Int32} {o6 a1 a2 a3 a4 a5 a6 a7 a8 a9 aA : Nat} {ad gg c1 d1 e1 r1 o1 : Nat → Int32} {w6 : va_W} {z9 x9 : Int32} {act at9 : Nat} (E : lwE p l s m c D cI cZ cJ b L xs) (hi70 : i < 70) (hrc : cells + 3 ≤ room_1.cells) (hrs : slots + 18 ≤ room_1.slots) (kk : ∀ (H : Heap) (locs : List Loc) (ls : Array Slot), lwI s D cI cZ cJ b (i + 1) H locs ls → W p l e room_1 s m #[Value.ref b] below meth c H locs (cells + 3) (slots + 18) Q (F0 m 97 ls [])) (hok : kOk v hf n len ll pen bf bl) (hst : kSt cI cZ v hf n len ll pen bf bl 0 o6 w6) (hP : va_P D vwCl ([(a1, .inl (cI, 60, .inl v)), (a2, .inl (cI, 60, .inl hf)), (a3, .inl (cI, 60, .inl ad)), (a4, .inl (cI, 12, .inl gg)), (a5, .inl (cI, 61, .inl c1)), (a6, .inl (cI, 61, .inl d1)), (a7, .inl (cI, 61, .inl e1)), (a8, .inl (cI, 6, .inl (kq (nI n) (nI len) (nI ll) pen bf bl))), (a9, .inl (cI, 60, .inl r1)), (aA, .inl (cI, 60, .inl o1))] ++ w6) H) (hD : va_D (lwA s) ([(a1, .inl (cI, 60, .inl v)), (a2, .inl (cI, 60, .inl hf)), (a3, .inl (cI, 60, .inl ad)), (a4, .inl (cI, 12, .inl gg)), (a5, .inl (cI, 61, .inl c1)), (a6, .inl (cI, 61, .inl d1)), (a7, .inl (cI, 61, .inl e1)), (a8, .inl (cI, 6, .inl (kq (nI n) (nI len) (nI ll) pen bf bl))), (a9, .inl (cI, 60, .inl r1)), (aA, .inl (cI, 60, .inl o1))] ++ w6)) (hS : va_S (lwA s) s.heap H locs) (hl : lv_has ls 22 [(0, .ref b), (1, .ref o6), (2, .ref a1), (3, .ref a2), (4, .ref a3), (5, .ref a4), (6, .ref a5), (7, .ref a6), (8, .ref a7), (9, .ref a9), (10, .ref aA), (11, .ref a8), (12, .int (nI i)), (13, .int z9), (14, .int (nI act)), (15, .int x9), (16, .int (nI at9)), (17, .int (nI 0)), (18, .int (nI 0))]) (hx1 : ¬ x9 < (-10000 : Int32)) (hx2 : x9 ≤ nI 10000) (hn21 : n ≤ 21) : W p l e room_1 s m #[Value.ref b] below meth c H locs cells slots Q (F0 m 235 ls []) := by
  obtain ⟨hx, hb, hml, hown, hts, hX, hbl, hK, hE, hlf, hL⟩ := id E
  obtain ⟨hn, hbit, hln1, hln2, hll, hlm, hvb, hpb, hbb, hfb⟩ := id hok
  have hA : ∀ q : Nat, s.heap.size ≤ q → lwA s q := fun _ h => h
  have hbA : ¬ lwA s b := Nat.not_le.mpr hbl
  refine wl_join2 (pc2 := 259) (fun (stk : List Value) (H : Heap) (locs : List Loc) (ls : Array Slot) => ∃ (t : Nat), stk = [.int (nI t)] ∧ (t ≤ 4) ∧ va_P D vwCl ([(a1, .inl (cI, 60, .inl v)), (a2, .inl (cI, 60, .inl hf)), (a3, .inl (cI, 60, .inl ad)), (a4, .inl (cI, 12, .inl gg)), (a5, .inl (cI, 61, .inl c1)), (a6, .inl (cI, 61, .inl d1)), (a7, .inl (cI, 61, .inl e1)), (a8, .inl (cI, 6, .inl (kq (nI n) (nI len) (nI ll) pen bf bl))), (a9, .inl (cI, 60, .inl r1)), (aA, .inl (cI, 60, .inl o1))] ++ w6) H ∧ va_D (lwA s) ([(a1, .inl (cI, 60, .inl v)), (a2, .inl (cI, 60, .inl hf)), (a3, .inl (cI, 60, .inl ad)), (a4, .inl (cI, 12, .inl gg)), (a5, .inl (cI, 61, .inl c1)), (a6, .inl (cI, 61, .inl d1)), (a7, .inl (cI, 61, .inl e1)), (a8, .inl (cI, 6, .inl (kq (nI n) (nI len) (nI ll) pen bf bl))), (a9, .inl (cI, 60, .inl r1)), (aA, .inl (cI, 60, .inl o1))] ++ w6) ∧ va_S (lwA s) s.heap H locs ∧ lv_has ls 22 [(0, .ref b), (1, .ref o6), (2, .ref a1), (3, .ref a2), (4, .ref a3), (5, .ref a4), (6, .ref a5), (7, .ref a6), (8, .ref a7), (9, .ref a9), (10, .ref aA), (11, .ref a8), (12, .int (nI i)), (13, .int z9), (14, .int (nI act)), (15, .int x9), (16, .int (nI at9)), (17, .int (nI 0)), (18, .int (nI 0))]) ?_ (fun j_1 => ?_)
  · skip
    rintro stk H locs ls ⟨t, rfl, ht4, hP, hD, hS, hl⟩
    refine lv_istore (lv' := [(19, .int (nI t)), (0, .ref b), (1, .ref o6), (2, .ref a1), (3, .ref a2), (4, .ref a3), (5, .ref a4), (6, .ref a5), (7, .ref a6), (8, .ref a7), (9, .ref a9), (10, .ref aA), (11, .ref a8), (12, .int (nI i)), (13, .int z9), (14, .int (nI act)), (15, .int x9), (16, .int (nI at9)), (17, .int (nI 0)), (18, .int (nI 0))]) hx hb dL_law_259 hl (by decide) rfl (fun ls hl => ?_)
    refine lv_iload hx hb dL_law_261 (lv_at hl 0 rfl) ?_
    refine wl_join2 (pc2 := 272) (fun (stk : List Value) (H : Heap) (locs : List Loc) (ls : Array Slot) => ∃ (mo : Nat), stk = [.int (nI mo)] ∧ (mo = if t = 0 then 1 else t) ∧ va_P D vwCl ([(a1, .inl (cI, 60, .inl v)), (a2, .inl (cI, 60, .inl hf)), (a3, .inl (cI, 60, .inl ad)), (a4, .inl (cI, 12, .inl gg)), (a5, .inl (cI, 61, .inl c1)), (a6, .inl (cI, 61, .inl d1)), (a7, .inl (cI, 61, .inl e1)), (a8, .inl (cI, 6, .inl (kq (nI n) (nI len) (nI ll) pen bf bl))), (a9, .inl (cI, 60, .inl r1)), (aA, .inl (cI, 60, .inl o1))] ++ w6) H ∧ va_D (lwA s) ([(a1, .inl (cI, 60, .inl v)), (a2, .inl (cI, 60, .inl hf)), (a3, .inl (cI, 60, .inl ad)), (a4, .inl (cI, 12, .inl gg)), (a5, .inl (cI, 61, .inl c1)), (a6, .inl (cI, 61, .inl d1)), (a7, .inl (cI, 61, .inl e1)), (a8, .inl (cI, 6, .inl (kq (nI n) (nI len) (nI ll) pen bf bl))), (a9, .inl (cI, 60, .inl r1)), (aA, .inl (cI, 60, .inl o1))] ++ w6) ∧ va_S (lwA s) s.heap H locs ∧ lv_has ls 22 [(19, .int (nI t)), (0, .ref b), (1, .ref o6), (2, .ref a1), (3, .ref a2), (4, .ref a3), (5, .ref a4), (6, .ref a5), (7, .ref a6), (8, .ref a7), (9, .ref a9), (10, .ref aA), (11, .ref a8), (12, .int (nI i)), (13, .int z9), (14, .int (nI act)), (15, .int x9), (16, .int (nI at9)), (17, .int (nI 0)), (18, .int (nI 0))]) ?_ (fun j_2 => ?_)
    · skip
      rintro stk H locs ls ⟨mo, rfl, hmo, hP, hD, hS, hl⟩
      refine lv_istore (lv' := [(20, .int (nI mo)), (19, .int (nI t)), (0, .ref b), (1, .ref o6), (2, .ref a1), (3, .ref a2), (4, .ref a3), (5, .ref a4), (6, .ref a5), (7, .ref a6), (8, .ref a7), (9, .ref a9), (10, .ref aA), (11, .ref a8), (12, .int (nI i)), (13, .int z9), (14, .int (nI act)), (15, .int x9), (16, .int (nI at9)), (17, .int (nI 0)), (18, .int (nI 0))]) hx hb dL_law_272 hl (by decide) rfl (fun ls hl => ?_)
      have hmo4 : 1 ≤ mo ∧ mo ≤ 4 := by rw [hmo]; split <;> omega
      refine lv_aload hx hb dL_law_274 (lv_at hl 13 rfl) ?_
      refine lv_iconst (v := nI 0) hx hb dL_law_276 (by decide) ?_
      refine va_iald (D := D) hx hb hK hP 7 0 rfl rfl (vp_in_nI (by omega) (by decide)) dL_law_277 ?_
      refine wt_i (by rw [nI_clamp (n := 0) (by omega)]) ?_
      refine wt_i (y := nI n) rfl ?_
      refine lv_iload hx hb dL_law_278 (lv_at hl 0 rfl) ?_
      refine lv_iadd hx hb dL_law_280 ?_
      refine wt_i (nI_add _ _) ?_
      refine lv_bipush (v := nI 60) hx hb dL_law_281 (by decide) ?_
      refine lv_icmp_le (tgt := 291) hx hb dL_law_283 (by decide) (fun c283 => ?_) (fun c283 => ?_)
      · skip
        have c283 := kle (a := (n + mo)) (b := 60) c283 (by omega) (by omega)
        refine wl_join2 (pc2 := 310) (fun (stk : List Value) (H : Heap) (locs : List Loc) (ls : Array Slot) => ∃ (du : Nat), stk = [.int (nI du)] ∧ (du = if t = 0 then n else n + t) ∧ (du ≤ 100) ∧ va_P D vwCl ([(a1, .inl (cI, 60, .inl v)), (a2, .inl (cI, 60, .inl hf)), (a3, .inl (cI, 60, .inl ad)), (a4, .inl (cI, 12, .inl gg)), (a5, .inl (cI, 61, .inl c1)), (a6, .inl (cI, 61, .inl d1)), (a7, .inl (cI, 61, .inl e1)), (a8, .inl (cI, 6, .inl (kq (nI n) (nI len) (nI ll) pen bf bl))), (a9, .inl (cI, 60, .inl r1)), (aA, .inl (cI, 60, .inl o1))] ++ w6) H ∧ va_D (lwA s) ([(a1, .inl (cI, 60, .inl v)), (a2, .inl (cI, 60, .inl hf)), (a3, .inl (cI, 60, .inl ad)), (a4, .inl (cI, 12, .inl gg)), (a5, .inl (cI, 61, .inl c1)), (a6, .inl (cI, 61, .inl d1)), (a7, .inl (cI, 61, .inl e1)), (a8, .inl (cI, 6, .inl (kq (nI n) (nI len) (nI ll) pen bf bl))), (a9, .inl (cI, 60, .inl r1)), (aA, .inl (cI, 60, .inl o1))] ++ w6) ∧ va_S (lwA s) s.heap H locs ∧ lv_has ls 22 [(20, .int (nI mo)), (19, .int (nI t)), (0, .ref b), (1, .ref o6), (2, .ref a1), (3, .ref a2), (4, .ref a3), (5, .ref a4), (6, .ref a5), (7, .ref a6), (8, .ref a7), (9, .ref a9), (10, .ref aA), (11, .ref a8), (12, .int (nI i)), (13, .int z9), (14, .int (nI act)), (15, .int x9), (16, .int (nI at9)), (17, .int (nI 0)), (18, .int (nI 0))]) ?_ (fun j_3 => ?_)
        · skip
          rintro stk H locs ls ⟨du, rfl, hdu, hdu6, hP, hD, hS, hl⟩
          refine lv_istore (lv' := [(17, .int (nI du)), (20, .int (nI mo)), (19, .int (nI t)), (0, .ref b), (1, .ref o6), (2, .ref a1), (3, .ref a2), (4, .ref a3), (5, .ref a4), (6, .ref a5), (7, .ref a6), (8, .ref a7), (9, .ref a9), (10, .ref aA), (11, .ref a8), (12, .int (nI i)), (13, .int z9), (14, .int (nI act)), (15, .int x9), (16, .int (nI at9)), (18, .int (nI 0))]) hx hb dL_law_310 hl (by decide) rfl (fun ls hl => ?_)
          refine lv_iconst (v := nI 0) hx hb dL_law_312 (by decide) ?_
          refine lv_istore (lv' := [(21, .int (nI 0)), (17, .int (nI du)), (20, .int (nI mo)), (19, .int (nI t)), (0, .ref b), (1, .ref o6), (2, .ref a1), (3, .ref a2), (4, .ref a3), (5, .ref a4), (6, .ref a5), (7, .ref a6), (8, .ref a7), (9, .ref a9), (10, .ref aA), (11, .ref a8), (12, .int (nI i)), (13, .int z9), (14, .int (nI act)), (15, .int x9), (16, .int (nI at9)), (18, .int (nI 0))]) hx hb dL_law_313 hl (by decide) rfl (fun ls hl => ?_)
          refine wl_loop (fun (d9 : Nat) (H : Heap) (locs : List Loc) (ls : Array Slot) => ∃ (k : Nat) (v3 : Nat → Int32) (h3 : Nat → Int32), d9 = mo - k ∧ (k ≤ mo) ∧ (v3 = kfill v n x9 k) ∧ (h3 = kfill hf n (nI 0) k) ∧ va_P D vwCl ([(a1, .inl (cI, 60, .inl v3)), (a2, .inl (cI, 60, .inl h3)), (a3, .inl (cI, 60, .inl ad)), (a4, .inl (cI, 12, .inl gg)), (a5, .inl (cI, 61, .inl c1)), (a6, .inl (cI, 61, .inl d1)), (a7, .inl (cI, 61, .inl e1)), (a8, .inl (cI, 6, .inl (kq (nI (n + k)) (nI len) (nI ll) pen bf bl))), (a9, .inl (cI, 60, .inl r1)), (aA, .inl (cI, 60, .inl o1))] ++ w6) H ∧ va_D (lwA s) ([(a1, .inl (cI, 60, .inl v3)), (a2, .inl (cI, 60, .inl h3)), (a3, .inl (cI, 60, .inl ad)), (a4, .inl (cI, 12, .inl gg)), (a5, .inl (cI, 61, .inl c1)), (a6, .inl (cI, 61, .inl d1)), (a7, .inl (cI, 61, .inl e1)), (a8, .inl (cI, 6, .inl (kq (nI (n + k)) (nI len) (nI ll) pen bf bl))), (a9, .inl (cI, 60, .inl r1)), (aA, .inl (cI, 60, .inl o1))] ++ w6) ∧ va_S (lwA s) s.heap H locs ∧ lv_has ls 22 [(21, .int (nI k)), (17, .int (nI du)), (20, .int (nI mo)), (19, .int (nI t)), (0, .ref b), (1, .ref o6), (2, .ref a1), (3, .ref a2), (4, .ref a3), (5, .ref a4), (6, .ref a5), (7, .ref a6), (8, .ref a7), (9, .ref a9), (10, .ref aA), (11, .ref a8), (12, .int (nI i)), (13, .int z9), (14, .int (nI act)), (15, .int x9), (16, .int (nI at9)), (18, .int (nI 0))]) ?_ _ ⟨0, _, _, rfl, Nat.zero_le _, (kfill_0 _ _ _).symm, (kfill_0 _ _ _).symm, hP, hD, hS, lv_sub hl [0, 1, 2, 3, 4, 5, 6, 7, 8, 9, 10, 11, 12, 13, 14, 15, 16, 17, 18, 19, 20, 21] rfl⟩
          rintro d_5 H locs ls ⟨k, v3, h3, hd_6, hk, ev, eh, hP, hD, hS, hl⟩ ih_4
          refine lv_iload hx hb dL_law_315 (lv_at hl 0 rfl) ?_
          refine lv_iload hx hb dL_law_317 (lv_at hl 2 rfl) ?_
          refine lv_icmp_ge (tgt := 356) hx hb dL_law_319 (by decide) (fun c319 => ?_) (fun c319 => ?_)
          · skip
            have c319 := kle (a := mo) (b := k) c319 (by omega) (by omega)
            have ek : k = mo := by omega
            rw [ek] at ev eh hP hD hl
            subst ev
            subst eh
            refine lv_aload_n hx hb dL_law_356 rfl (lv_at hl 5 rfl) ?_
            refine lv_iload hx hb dL_law_357 (lv_at hl 19 rfl) ?_
            refine lv_iload hx hb dL_law_359 (lv_at hl 3 rfl) ?_
            refine klci (X := [(a1, .inl (cI, 60, .inl (kfill v n x9 mo))), (a2, .inl (cI, 60, .inl (kfill hf n (nI 0) mo))), (a3, .inl (cI, 60, .inl ad)), (a4, .inl (cI, 12, .inl gg)), (a5, .inl (cI, 61, .inl c1)), (a6, .inl (cI, 61, .inl d1)), (a7, .inl (cI, 61, .inl e1)), (a8, .inl (cI, 6, .inl (kq (nI (n + mo)) (nI len) (nI ll) pen bf bl))), (a9, .inl (cI, 60, .inl r1)), (aA, .inl (cI, 60, .inl o1))]) (pl := w6) (vx_runSW (As := [.ref o6, .int x9, .int (nI t)]) (rest := []) ⟨hx, hb, hml, hown, hts⟩ (h_L_adds l hlf D cI cZ cJ H.size v hf n len ll pen bf bl o6 w6 x9 t mo hok hst hx1 hx2 hmo (by omega)) (vx_cwSW 3 hts gL_law_L_adds rfl rfl rfl (by decide +kernel) ⟨Nat.le_of_ble_eq_true rfl, Nat.le_of_ble_eq_true rfl⟩) (kpreLX hK hP hD hS hA hE) rfl rfl hl.1 rfl (lv_room (Nat.le_of_ble_eq_true rfl)) dL_law_361 ⟨by show cells + 1 ≤ room_1.cells; omega, by show slots + 6 ≤ room_1.slots; omega⟩) hP hD hS hA (fun r_7 w_8 H locs hw hP hD hS => ?_)
            obtain ⟨hr9, hst⟩ := hw
            have hP : va_P D vwCl ([(a1, .inl (cI, 60, .inl (kfill v n x9 mo))), (a2, .inl (cI, 60, .inl (kfill hf n (nI 0) mo))), (a3, .inl (cI, 60, .inl ad)), (a4, .inl (cI, 12, .inl gg)), (a5, .inl (cI, 61, .inl c1)), (a6, .inl (cI, 61, .inl d1)), (a7, .inl (cI, 61, .inl e1)), (a8, .inl (cI, 6, .inl (kq (nI (n + mo)) (nI len) (nI ll) pen bf bl))), (a9, .inl (cI, 60, .inl r1)), (aA, .inl (cI, 60, .inl o1))] ++ w_8) H := hP
            have hD : va_D (lwA s) ([(a1, .inl (cI, 60, .inl (kfill v n x9 mo))), (a2, .inl (cI, 60, .inl (kfill hf n (nI 0) mo))), (a3, .inl (cI, 60, .inl ad)), (a4, .inl (cI, 12, .inl gg)), (a5, .inl (cI, 61, .inl c1)), (a6, .inl (cI, 61, .inl d1)), (a7, .inl (cI, 61, .inl e1)), (a8, .inl (cI, 6, .inl (kq (nI (n + mo)) (nI len) (nI ll) pen bf bl))), (a9, .inl (cI, 60, .inl r1)), (aA, .inl (cI, 60, .inl o1))] ++ w_8) := hD
            refine wt_i hr9 ?_
            refine wt_i (y := nI du) (show _ = nI du from by rw [hdu]) ?_
            refine lv_istore (lv' := [(18, .int (nI du)), (21, .int (nI mo)), (17, .int (nI du)), (20, .int (nI mo)), (19, .int (nI t)), (0, .ref b), (1, .ref o6), (2, .ref a1), (3, .ref a2), (4, .ref a3), (5, .ref a4), (6, .ref a5), (7, .ref a6), (8, .ref a7), (9, .ref a9), (10, .ref aA), (11, .ref a8), (12, .int (nI i)), (13, .int z9), (14, .int (nI act)), (15, .int x9), (16, .int (nI at9))]) hx hb dL_law_364 hl (by decide) rfl (fun ls hl => ?_)
            refine lv_goto (tgt := 738) hx hb dL_law_366 (by decide) ?_
            exact t_so (tl9 := nI du) (z9 := z9) E hi70 (by show cells + 3 ≤ room_1.cells; omega) (by show slots + 18 ≤ room_1.slots; omega) (fun H locs ls h9 => kk H locs ls h9) (kOk_fill hok (kin_of hx1 hx2) (by omega)) hst hP hD hS (lv_sub hl [5, 6, 7, 8, 9, 10, 11, 12, 13, 14, 15, 16, 17, 18, 2, 0] rfl) 
          · skip
            have c319 := knle (a := mo) (b := k) c319 (by omega) (by omega)
            refine lv_iload hx hb dL_law_322 (lv_at hl 1 rfl) ?_
            refine lv_if_lt (tgt := 356) hx hb dL_law_324 (by decide) (fun c324 => ?_) (fun c324 => ?_)
            · skip
              have c324 := klt (a := du) (b := 0) c324 (by omega) (by omega)
              omega
            · skip
              have c324 := knlt (a := du) (b := 0) c324 (by omega) (by omega)
              refine lv_aload_n hx hb dL_law_327 rfl (lv_at hl 6 rfl) ?_
              refine lv_aload hx hb dL_law_328 (lv_at hl 15 rfl) ?_
              refine lv_iconst (v := nI 0) hx hb dL_law_330 (by decide) ?_
              refine va_iald (D := D) hx hb hK hP 7 0 rfl rfl (vp_in_nI (by omega) (by decide)) dL_law_331 ?_
              refine wt_i (by rw [nI_clamp (n := 0) (by omega)]) ?_
              refine wt_i (y := nI (n + k)) rfl ?_
              refine lv_iload hx hb dL_law_332 (lv_at hl 19 rfl) ?_
              refine va_iast (D := D) hx hb hK hP hD hS 0 0 rfl rfl (vp_in_nI (by omega) (by decide)) dL_law_334 (fun H locs hP hD hS => ?_)
              rw [nI_clamp (n := (n + k)) (by omega)] at hP hD
              have hP : va_P D vwCl ([(a1, .inl (cI, 60, .inl (upd v3 (n + k) x9))), (a2, .inl (cI, 60, .inl h3)), (a3, .inl (cI, 60, .inl ad)), (a4, .inl (cI, 12, .inl gg)), (a5, .inl (cI, 61, .inl c1)), (a6, .inl (cI, 61, .inl d1)), (a7, .inl (cI, 61, .inl e1)), (a8, .inl (cI, 6, .inl (kq (nI (n + k)) (nI len) (nI ll) pen bf bl))), (a9, .inl (cI, 60, .inl r1)), (aA, .inl (cI, 60, .inl o1))] ++ w6) H := hP
              have hD : va_D (lwA s) ([(a1, .inl (cI, 60, .inl (upd v3 (n + k) x9))), (a2, .inl (cI, 60, .inl h3)), (a3, .inl (cI, 60, .inl ad)), (a4, .inl (cI, 12, .inl gg)), (a5, .inl (cI, 61, .inl c1)), (a6, .inl (cI, 61, .inl d1)), (a7, .inl (cI, 61, .inl e1)), (a8, .inl (cI, 6, .inl (kq (nI (n + k)) (nI len) (nI ll) pen bf bl))), (a9, .inl (cI, 60, .inl r1)), (aA, .inl (cI, 60, .inl o1))] ++ w6) := hD
              refine lv_aload_n hx hb dL_law_335 rfl (lv_at hl 7 rfl) ?_
              refine lv_aload hx hb dL_law_336 (lv_at hl 15 rfl) ?_
              refine lv_iconst (v := nI 0) hx hb dL_law_338 (by decide) ?_
              refine va_iald (D := D) hx hb hK hP 7 0 rfl rfl (vp_in_nI (by omega) (by decide)) dL_law_339 ?_
              refine wt_i (by rw [nI_clamp (n := 0) (by omega)]) ?_
              refine wt_i (y := nI (n + k)) rfl ?_
              refine lv_iconst (v := nI 0) hx hb dL_law_340 (by decide) ?_
              refine va_iast (D := D) hx hb hK hP hD hS 1 0 rfl rfl (vp_in_nI (by omega) (by decide)) dL_law_341 (fun H locs hP hD hS => ?_)
              rw [nI_clamp (n := (n + k)) (by omega)] at hP hD
              have hP : va_P D vwCl ([(a1, .inl (cI, 60, .inl (upd v3 (n + k) x9))), (a2, .inl (cI, 60, .inl (upd h3 (n + k) (nI 0)))), (a3, .inl (cI, 60, .inl ad)), (a4, .inl (cI, 12, .inl gg)), (a5, .inl (cI, 61, .inl c1)), (a6, .inl (cI, 61, .inl d1)), (a7, .inl (cI, 61, .inl e1)), (a8, .inl (cI, 6, .inl (kq (nI (n + k)) (nI len) (nI ll) pen bf bl))), (a9, .inl (cI, 60, .inl r1)), (aA, .inl (cI, 60, .inl o1))] ++ w6) H := hP
              have hD : va_D (lwA s) ([(a1, .inl (cI, 60, .inl (upd v3 (n + k) x9))), (a2, .inl (cI, 60, .inl (upd h3 (n + k) (nI 0)))), (a3, .inl (cI, 60, .inl ad)), (a4, .inl (cI, 12, .inl gg)), (a5, .inl (cI, 61, .inl c1)), (a6, .inl (cI, 61, .inl d1)), (a7, .inl (cI, 61, .inl e1)), (a8, .inl (cI, 6, .inl (kq (nI (n + k)) (nI len) (nI ll) pen bf bl))), (a9, .inl (cI, 60, .inl r1)), (aA, .inl (cI, 60, .inl o1))] ++ w6) := hD
              refine lv_aload hx hb dL_law_342 (lv_at hl 15 rfl) ?_
              refine lv_iconst (v := nI 0) hx hb dL_law_344 (by decide) ?_
              refine lv_dup2_11 hx hb dL_law_345 rfl rfl ?_
              refine va_iald (D := D) hx hb hK hP 7 0 rfl rfl (vp_in_nI (by omega) (by decide)) dL_law_346 ?_
              refine wt_i (by rw [nI_clamp (n := 0) (by omega)]) ?_
              refine wt_i (y := nI (n + k)) rfl ?_
              refine lv_iconst (v := nI 1) hx hb dL_law_347 (by decide) ?_
              refine lv_iadd hx hb dL_law_348 ?_
              refine wt_i (nI_add _ _) ?_
              refine va_iast (D := D) hx hb hK hP hD hS 7 0 rfl rfl (vp_in_nI (by omega) (by decide)) dL_law_349 (fun H locs hP hD hS => ?_)
              rw [nI_clamp (n := 0) (by omega)] at hP hD
              rw [show upd (kq (nI (n + k)) (nI len) (nI ll) pen bf bl) 0 (nI ((n + k) + 1)) = kq (nI ((n + k) + 1)) (nI len) (nI ll) pen bf bl from kq_u0 _ _ _ _ _ _ _] at hP hD
              have hP : va_P D vwCl ([(a1, .inl (cI, 60, .inl (upd v3 (n + k) x9))), (a2, .inl (cI, 60, .inl (upd h3 (n + k) (nI 0)))), (a3, .inl (cI, 60, .inl ad)), (a4, .inl (cI, 12, .inl gg)), (a5, .inl (cI, 61, .inl c1)), (a6, .inl (cI, 61, .inl d1)), (a7, .inl (cI, 61, .inl e1)), (a8, .inl (cI, 6, .inl (kq (nI ((n + k) + 1)) (nI len) (nI ll) pen bf bl))), (a9, .inl (cI, 60, .inl r1)), (aA, .inl (cI, 60, .inl o1))] ++ w6) H := hP
              have hD : va_D (lwA s) ([(a1, .inl (cI, 60, .inl (upd v3 (n + k) x9))), (a2, .inl (cI, 60, .inl (upd h3 (n + k) (nI 0)))), (a3, .inl (cI, 60, .inl ad)), (a4, .inl (cI, 12, .inl gg)), (a5, .inl (cI, 61, .inl c1)), (a6, .inl (cI, 61, .inl d1)), (a7, .inl (cI, 61, .inl e1)), (a8, .inl (cI, 6, .inl (kq (nI ((n + k) + 1)) (nI len) (nI ll) pen bf bl))), (a9, .inl (cI, 60, .inl r1)), (aA, .inl (cI, 60, .inl o1))] ++ w6) := hD
              refine lv_iinc (v := nI (k + 1)) (lv' := [(21, .int (nI (k + 1))), (17, .int (nI du)), (20, .int (nI mo)), (19, .int (nI t)), (0, .ref b), (1, .ref o6), (2, .ref a1), (3, .ref a2), (4, .ref a3), (5, .ref a4), (6, .ref a5), (7, .ref a6), (8, .ref a7), (9, .ref a9), (10, .ref aA), (11, .ref a8), (12, .int (nI i)), (13, .int z9), (14, .int (nI act)), (15, .int x9), (16, .int (nI at9)), (18, .int (nI 0))]) hx hb dL_law_350 hl (k := 0) rfl (by exact nI_add _ 1) (by decide) rfl (fun ls hl => ?_)
              refine lv_goto (tgt := 315) hx hb dL_law_353 (by decide) ?_
              exact ih_4 _ (by omega) _ _ _ ⟨(k + 1), _, _, rfl, by omega, by rw [ev, kfill_s], by rw [eh, kfill_s], hP, hD, hS, lv_sub hl [0, 1, 2, 3, 4, 5, 6, 7, 8, 9, 10, 11, 12, 13, 14, 15, 16, 17, 18, 19, 20, 21] rfl⟩
        refine lv_iload hx hb dL_law_291 (lv_at hl 1 rfl) ?_
        refine lv_if_ne (tgt := 303) hx hb dL_law_293 (by decide) (fun c293 => ?_) (fun c293 => ?_)
        · skip
          have c293 := kneq (a := t) (b := 0) c293 (by omega) (by omega)
          refine lv_aload hx hb dL_law_303 (lv_at hl 13 rfl) ?_
          refine lv_iconst (v := nI 0) hx hb dL_law_305 (by decide) ?_
          refine va_iald (D := D) hx hb hK hP 7 0 rfl rfl (vp_in_nI (by omega) (by decide)) dL_law_306 ?_
          refine wt_i (by rw [nI_clamp (n := 0) (by omega)]) ?_
          refine wt_i (y := nI n) rfl ?_
          refine lv_iload hx hb dL_law_307 (lv_at hl 1 rfl) ?_
          refine lv_iadd hx hb dL_law_309 ?_
          refine wt_i (nI_add _ _) ?_
          exact j_3 _ _ _ _ ⟨(n + t), rfl, (if_neg c293).symm, by omega, hP, hD, hS, lv_sub hl [0, 1, 2, 3, 4, 5, 6, 7, 8, 9, 10, 11, 12, 13, 14, 15, 16, 17, 18, 19, 20] rfl⟩
        · skip
          have c293 := keq (a := t) (b := 0) c293 (by omega) (by omega)
          refine lv_aload hx hb dL_law_296 (lv_at hl 13 rfl) ?_
          refine lv_iconst (v := nI 0) hx hb dL_law_298 (by decide) ?_
          refine va_iald (D := D) hx hb hK hP 7 0 rfl rfl (vp_in_nI (by omega) (by decide)) dL_law_299 ?_
          refine wt_i (by rw [nI_clamp (n := 0) (by omega)]) ?_
          refine wt_i (y := nI n) rfl ?_
          refine lv_goto (tgt := 310) hx hb dL_law_300 (by decide) ?_
          exact j_3 _ _ _ _ ⟨n, rfl, (if_pos c293).symm, by omega, hP, hD, hS, lv_sub hl [0, 1, 2, 3, 4, 5, 6, 7, 8, 9, 10, 11, 12, 13, 14, 15, 16, 17, 18, 19, 20] rfl⟩
      · skip
        have c283 := knle (a := (n + mo)) (b := 60) c283 (by omega) (by omega)
        omega
    refine lv_if_ne (tgt := 270) hx hb dL_law_263 (by decide) (fun c263 => ?_) (fun c263 => ?_)
    · skip
      have c263 := kneq (a := t) (b := 0) c263 (by omega) (by omega)
      refine lv_iload hx hb dL_law_270 (lv_at hl 0 rfl) ?_
      exact j_2 _ _ _ _ ⟨t, rfl, (if_neg c263).symm, hP, hD, hS, lv_sub hl [0, 1, 2, 3, 4, 5, 6, 7, 8, 9, 10, 11, 12, 13, 14, 15, 16, 17, 18, 19] rfl⟩
    · skip
      have c263 := keq (a := t) (b := 0) c263 (by omega) (by omega)
      refine lv_iconst (v := nI 1) hx hb dL_law_266 (by decide) ?_
      refine lv_goto (tgt := 272) hx hb dL_law_267 (by decide) ?_
      exact j_2 _ _ _ _ ⟨1, rfl, (if_pos c263).symm, hP, hD, hS, lv_sub hl [0, 1, 2, 3, 4, 5, 6, 7, 8, 9, 10, 11, 12, 13, 14, 15, 16, 17, 18, 19] rfl⟩
  refine lv_iload hx hb dL_law_235 (lv_at hl 13 rfl) ?_
  refine lv_iconst (v := nI 3) hx hb dL_law_237 (by decide) ?_
  refine klhi (X := [(a1, .inl (cI, 60, .inl v)), (a2, .inl (cI, 60, .inl hf)), (a3, .inl (cI, 60, .inl ad)), (a4, .inl (cI, 12, .inl gg)), (a5, .inl (cI, 61, .inl c1)), (a6, .inl (cI, 61, .inl d1)), (a7, .inl (cI, 61, .inl e1)), (a8, .inl (cI, 6, .inl (kq (nI n) (nI len) (nI ll) pen bf bl))), (a9, .inl (cI, 60, .inl r1)), (aA, .inl (cI, 60, .inl o1))]) (pl := w6) (wr := [(a1, .inl (cI, 60, .inl v)), (a2, .inl (cI, 60, .inl hf)), (a3, .inl (cI, 60, .inl ad)), (a4, .inl (cI, 12, .inl gg)), (a5, .inl (cI, 61, .inl c1)), (a6, .inl (cI, 61, .inl d1)), (a7, .inl (cI, 61, .inl e1)), (a8, .inl (cI, 6, .inl (kq (nI n) (nI len) (nI ll) pen bf bl))), (a9, .inl (cI, 60, .inl r1)), (aA, .inl (cI, 60, .inl o1))]) (pre := []) (va_runS (As := [.int z9, .int (nI 3)]) (rest := []) ⟨hx, hb, hml, hown, hts⟩ (c_L_low l D cI cZ cJ H.size z9 3 (by first | assumption | omega) (by first | assumption | omega)) (va_cwS 2 hts gL_law_L_low rfl rfl rfl (by decide +kernel) ⟨Nat.le_of_ble_eq_true rfl, Nat.le_of_ble_eq_true rfl⟩) (kpreH hK hP hD [] (by decide +kernel) rfl) rfl rfl hl.1 rfl (lv_room (Nat.le_of_ble_eq_true rfl)) dL_law_238 ⟨by show cells + 0 ≤ room_1.cells; omega, by show slots + 0 ≤ room_1.slots; omega⟩) hP hD hS hA [] [0, 1, 2, 3, 4, 5, 6, 7, 8, 9] rfl rfl (by decide +kernel) (by decide +kernel) (fun r_10 kt1 H locs hw hP hD hS => ?_)
  have hP : va_P D vwCl ([(a1, .inl (cI, 60, .inl v)), (a2, .inl (cI, 60, .inl hf)), (a3, .inl (cI, 60, .inl ad)), (a4, .inl (cI, 12, .inl gg)), (a5, .inl (cI, 61, .inl c1)), (a6, .inl (cI, 61, .inl d1)), (a7, .inl (cI, 61, .inl e1)), (a8, .inl (cI, 6, .inl (kq (nI n) (nI len) (nI ll) pen bf bl))), (a9, .inl (cI, 60, .inl r1)), (aA, .inl (cI, 60, .inl o1))] ++ w6) H := hP
  have hD : va_D (lwA s) ([(a1, .inl (cI, 60, .inl v)), (a2, .inl (cI, 60, .inl hf)), (a3, .inl (cI, 60, .inl ad)), (a4, .inl (cI, 12, .inl gg)), (a5, .inl (cI, 61, .inl c1)), (a6, .inl (cI, 61, .inl d1)), (a7, .inl (cI, 61, .inl e1)), (a8, .inl (cI, 6, .inl (kq (nI n) (nI len) (nI ll) pen bf bl))), (a9, .inl (cI, 60, .inl r1)), (aA, .inl (cI, 60, .inl o1))] ++ w6) := hD
  have hw : r_10 = nI kt1 ∧ (kt1 = klow z9 3 ∧ kt1 < 3) := hw
  obtain ⟨hr9, ht1⟩ := hw
  refine wt_i hr9 ?_
  obtain ⟨ht1a, ht1b⟩ := ht1
  refine lv_if_ne (tgt := 258) hx hb dL_law_241 (by decide) (fun c241 => ?_) (fun c241 => ?_)
  · skip
    have c241 := kneq (a := kt1) (b := 0) c241 (by omega) (by omega)
    refine lv_iconst (v := nI 0) hx hb dL_law_258 (by decide) ?_
    exact j_1 _ _ _ _ ⟨0, rfl, by omega, hP, hD, hS, lv_sub hl [0, 1, 2, 3, 4, 5, 6, 7, 8, 9, 10, 11, 12, 13, 14, 15, 16, 17, 18] rfl⟩
  · skip
    have c241 := keq (a := kt1) (b := 0) c241 (by omega) (by omega)
    refine lv_iconst (v := nI 1) hx hb dL_law_244 (by decide) ?_
    refine lv_iload hx hb dL_law_245 (lv_at hl 13 rfl) ?_
    refine lv_bipush (v := nI 6) hx hb dL_law_247 (by decide) ?_
    refine lv_ishr hx hb dL_law_249 ?_
    refine lv_iconst (v := nI 4) hx hb dL_law_250 (by decide) ?_
    refine klhi (X := [(a1, .inl (cI, 60, .inl v)), (a2, .inl (cI, 60, .inl hf)), (a3, .inl (cI, 60, .inl ad)), (a4, .inl (cI, 12, .inl gg)), (a5, .inl (cI, 61, .inl c1)), (a6, .inl (cI, 61, .inl d1)), (a7, .inl (cI, 61, .inl e1)), (a8, .inl (cI, 6, .inl (kq (nI n) (nI len) (nI ll) pen bf bl))), (a9, .inl (cI, 60, .inl r1)), (aA, .inl (cI, 60, .inl o1))]) (pl := w6) (wr := [(a1, .inl (cI, 60, .inl v)), (a2, .inl (cI, 60, .inl hf)), (a3, .inl (cI, 60, .inl ad)), (a4, .inl (cI, 12, .inl gg)), (a5, .inl (cI, 61, .inl c1)), (a6, .inl (cI, 61, .inl d1)), (a7, .inl (cI, 61, .inl e1)), (a8, .inl (cI, 6, .inl (kq (nI n) (nI len) (nI ll) pen bf bl))), (a9, .inl (cI, 60, .inl r1)), (aA, .inl (cI, 60, .inl o1))]) (pre := []) (va_runS (As := [.int (z9 >>> (nI 6 &&& 31)), .int (nI 4)]) (rest := [.int (nI 1)]) ⟨hx, hb, hml, hown, hts⟩ (c_L_low l D cI cZ cJ H.size (z9 >>> (nI 6 &&& 31)) 4 (by first | assumption | omega) (by first | assumption | omega)) (va_cwS 2 hts gL_law_L_low rfl rfl rfl (by decide +kernel) ⟨Nat.le_of_ble_eq_true rfl, Nat.le_of_ble_eq_true rfl⟩) (kpreH hK hP hD [] (by decide +kernel) rfl) rfl rfl hl.1 rfl (lv_room (Nat.le_of_ble_eq_true rfl)) dL_law_251 ⟨by show cells + 0 ≤ room_1.cells; omega, by show slots + 0 ≤ room_1.slots; omega⟩) hP hD hS hA [] [0, 1, 2, 3, 4, 5, 6, 7, 8, 9] rfl rfl (by decide +kernel) (by decide +kernel) (fun r_11 kt2 H locs hw hP hD hS => ?_)
    have hP : va_P D vwCl ([(a1, .inl (cI, 60, .inl v)), (a2, .inl (cI, 60, .inl hf)), (a3, .inl (cI, 60, .inl ad)), (a4, .inl (cI, 12, .inl gg)), (a5, .inl (cI, 61, .inl c1)), (a6, .inl (cI, 61, .inl d1)), (a7, .inl (cI, 61, .inl e1)), (a8, .inl (cI, 6, .inl (kq (nI n) (nI len) (nI ll) pen bf bl))), (a9, .inl (cI, 60, .inl r1)), (aA, .inl (cI, 60, .inl o1))] ++ w6) H := hP
    have hD : va_D (lwA s) ([(a1, .inl (cI, 60, .inl v)), (a2, .inl (cI, 60, .inl hf)), (a3, .inl (cI, 60, .inl ad)), (a4, .inl (cI, 12, .inl gg)), (a5, .inl (cI, 61, .inl c1)), (a6, .inl (cI, 61, .inl d1)), (a7, .inl (cI, 61, .inl e1)), (a8, .inl (cI, 6, .inl (kq (nI n) (nI len) (nI ll) pen bf bl))), (a9, .inl (cI, 60, .inl r1)), (aA, .inl (cI, 60, .inl o1))] ++ w6) := hD
    have hw : r_11 = nI kt2 ∧ (kt2 = klow (z9 >>> (nI 6 &&& 31)) 4 ∧ kt2 < 4) := hw
    obtain ⟨hr9, ht2⟩ := hw
    refine wt_i hr9 ?_
    obtain ⟨ht2a, ht2b⟩ := ht2
    refine lv_iadd hx hb dL_law_254 ?_
    refine wt_i (nI_add _ _) ?_
    refine lv_goto (tgt := 259) hx hb dL_law_255 (by decide) ?_
    exact j_1 _ _ _ _ ⟨(1 + kt2), rfl, by omega, hP, hD, hS, lv_sub hl [0, 1, 2, 3, 4, 5, 6, 7, 8, 9, 10, 11, 12, 13, 14, 15, 16, 17, 18] rfl⟩

set_option maxHeartbeats 4000000 in
set_option maxRecDepth 100000 in
theorem t_corr {p : Program} {l : Launch} {e : Env} {s : State} {m : MethodId} {below : List Frame} {meth : Method} {c : Code} {Q : State → Prop} {D : va_G} {cI cZ cJ : ClassId} {b L i cells slots : Nat} {xs : Nat → Int32} {H : Heap} {locs : List Loc} {ls : Array Slot} {v hf : Nat → Int32} {n len ll : Nat} {pen bf bl : Int32} {o6 a1 a2 a3 a4 a5 a6 a7 a8 a9 aA : Nat} {ad gg c1 d1 e1 r1 o1 : Nat → Int32} {w6 : va_W} {z9 x9 : Int32} {act at9 : Nat} (E : lwE p l s m c D cI cZ cJ b L xs) (hi70 : i < 70) (hrc : cells + 3 ≤ room_1.cells) (hrs : slots + 18 ≤ room_1.slots) (kk : ∀ (H : Heap) (locs : List Loc) (ls : Array Slot), lwI s D cI cZ cJ b (i + 1) H locs ls → W p l e room_1 s m #[Value.ref b] below meth c H locs (cells + 3) (slots + 18) Q (F0 m 97 ls [])) (hok : kOk v hf n len ll pen bf bl) (hst : kSt cI cZ v hf n len ll pen bf bl 0 o6 w6) (hP : va_P D vwCl ([(a1, .inl (cI, 60, .inl v)), (a2, .inl (cI, 60, .inl hf)), (a3, .inl (cI, 60, .inl ad)), (a4, .inl (cI, 12, .inl gg)), (a5, .inl (cI, 61, .inl c1)), (a6, .inl (cI, 61, .inl d1)), (a7, .inl (cI, 61, .inl e1)), (a8, .inl (cI, 6, .inl (kq (nI n) (nI len) (nI ll) pen bf bl))), (a9, .inl (cI, 60, .inl r1)), (aA, .inl (cI, 60, .inl o1))] ++ w6) H) (hD : va_D (lwA s) ([(a1, .inl (cI, 60, .inl v)), (a2, .inl (cI, 60, .inl hf)), (a3, .inl (cI, 60, .inl ad)), (a4, .inl (cI, 12, .inl gg)), (a5, .inl (cI, 61, .inl c1)), (a6, .inl (cI, 61, .inl d1)), (a7, .inl (cI, 61, .inl e1)), (a8, .inl (cI, 6, .inl (kq (nI n) (nI len) (nI ll) pen bf bl))), (a9, .inl (cI, 60, .inl r1)), (aA, .inl (cI, 60, .inl o1))] ++ w6)) (hS : va_S (lwA s) s.heap H locs) (hl : lv_has ls 22 [(0, .ref b), (1, .ref o6), (2, .ref a1), (3, .ref a2), (4, .ref a3), (5, .ref a4), (6, .ref a5), (7, .ref a6), (8, .ref a7), (9, .ref a9), (10, .ref aA), (11, .ref a8), (12, .int (nI i)), (13, .int z9), (14, .int (nI act)), (15, .int x9), (16, .int (nI at9)), (17, .int (nI 0)), (18, .int (nI 0))]) (hx1 : ¬ x9 < (-10000 : Int32)) (hx2 : x9 ≤ nI 10000) (hatn : at9 < n) : W p l e room_1 s m #[Value.ref b] below meth c H locs cells slots Q (F0 m 376 ls []) := by
  obtain ⟨hx, hb, hml, hown, hts, hX, hbl, hK, hE, hlf, hL⟩ := id E
  obtain ⟨hn, hbit, hln1, hln2, hll, hlm, hvb, hpb, hbb, hfb⟩ := id hok
  have hA : ∀ q : Nat, s.heap.size ≤ q → lwA s q := fun _ h => h
  have hbA : ¬ lwA s b := Nat.not_le.mpr hbl
  refine lv_aload_n hx hb dL_law_376 rfl (lv_at hl 2 rfl) ?_
  refine lv_iload hx hb dL_law_377 (lv_at hl 16 rfl) ?_
  refine va_iald (D := D) hx hb hK hP 0 0 rfl rfl (vp_in_nI (by omega) (by decide)) dL_law_379 ?_
  refine wt_i (by rw [nI_clamp (n := at9) (by omega)]) ?_
  refine lv_istore (lv' := [(17, .int (v at9)), (0, .ref b), (1, .ref o6), (2, .ref a1), (3, .ref a2), (4, .ref a3), (5, .ref a4), (6, .ref a5), (7, .ref a6), (8, .ref a7), (9, .ref a9), (10, .ref aA), (11, .ref a8), (12, .int (nI i)), (13, .int z9), (14, .int (nI act)), (15, .int x9), (16, .int (nI at9)), (18, .int (nI 0))]) hx hb dL_law_380 hl (by decide) rfl (fun ls hl => ?_)
  refine lv_aload_n hx hb dL_law_382 rfl (lv_at hl 3 rfl) ?_
  refine lv_iload hx hb dL_law_383 (lv_at hl 17 rfl) ?_
  refine lv_iload hx hb dL_law_385 (lv_at hl 16 rfl) ?_
  refine va_iast (D := D) hx hb hK hP hD hS 0 0 rfl rfl (vp_in_nI (by omega) (by decide)) dL_law_387 (fun H locs hP hD hS => ?_)
  rw [nI_clamp (n := at9) (by omega)] at hP hD
  have hP : va_P D vwCl ([(a1, .inl (cI, 60, .inl (upd v at9 x9))), (a2, .inl (cI, 60, .inl hf)), (a3, .inl (cI, 60, .inl ad)), (a4, .inl (cI, 12, .inl gg)), (a5, .inl (cI, 61, .inl c1)), (a6, .inl (cI, 61, .inl d1)), (a7, .inl (cI, 61, .inl e1)), (a8, .inl (cI, 6, .inl (kq (nI n) (nI len) (nI ll) pen bf bl))), (a9, .inl (cI, 60, .inl r1)), (aA, .inl (cI, 60, .inl o1))] ++ w6) H := hP
  have hD : va_D (lwA s) ([(a1, .inl (cI, 60, .inl (upd v at9 x9))), (a2, .inl (cI, 60, .inl hf)), (a3, .inl (cI, 60, .inl ad)), (a4, .inl (cI, 12, .inl gg)), (a5, .inl (cI, 61, .inl c1)), (a6, .inl (cI, 61, .inl d1)), (a7, .inl (cI, 61, .inl e1)), (a8, .inl (cI, 6, .inl (kq (nI n) (nI len) (nI ll) pen bf bl))), (a9, .inl (cI, 60, .inl r1)), (aA, .inl (cI, 60, .inl o1))] ++ w6) := hD
  refine lv_aload_n hx hb dL_law_388 rfl (lv_at hl 2 rfl) ?_
  refine lv_iload hx hb dL_law_389 (lv_at hl 17 rfl) ?_
  refine lv_iload hx hb dL_law_391 (lv_at hl 16 rfl) ?_
  refine klci (X := [(a1, .inl (cI, 60, .inl (upd v at9 x9))), (a2, .inl (cI, 60, .inl hf)), (a3, .inl (cI, 60, .inl ad)), (a4, .inl (cI, 12, .inl gg)), (a5, .inl (cI, 61, .inl c1)), (a6, .inl (cI, 61, .inl d1)), (a7, .inl (cI, 61, .inl e1)), (a8, .inl (cI, 6, .inl (kq (nI n) (nI len) (nI ll) pen bf bl))), (a9, .inl (cI, 60, .inl r1)), (aA, .inl (cI, 60, .inl o1))]) (pl := w6) (va_runV (As := [.int (nI at9), .int x9]) (rest := []) ⟨hx, hb, hml, hown, hts⟩ (c_X6_correct l D cI cZ cJ H.size v hf n len ll pen bf bl o6 w6 at9 x9 hok hst hx1 hx2 hatn) (cwV 2 hts gL_law_X6_correct rfl rfl rfl (by decide +kernel) ⟨Nat.le_of_ble_eq_true rfl, Nat.le_of_ble_eq_true rfl⟩) (kpreL hK hP hD rfl (kSt_recv hst)) rfl rfl hl.1 rfl (lv_room (Nat.le_of_ble_eq_true rfl)) dL_law_393 ⟨by show cells + 0 ≤ room_1.cells; omega, by show slots + 0 ≤ room_1.slots; omega⟩) hP hD hS hA (fun r_1 w_2 H locs hw hP hD hS => ?_)
  obtain ⟨hr9, hst⟩ := hw
  have hP : va_P D vwCl ([(a1, .inl (cI, 60, .inl (upd v at9 x9))), (a2, .inl (cI, 60, .inl hf)), (a3, .inl (cI, 60, .inl ad)), (a4, .inl (cI, 12, .inl gg)), (a5, .inl (cI, 61, .inl c1)), (a6, .inl (cI, 61, .inl d1)), (a7, .inl (cI, 61, .inl e1)), (a8, .inl (cI, 6, .inl (kq (nI n) (nI len) (nI ll) pen bf bl))), (a9, .inl (cI, 60, .inl r1)), (aA, .inl (cI, 60, .inl o1))] ++ w_2) H := hP
  have hD : va_D (lwA s) ([(a1, .inl (cI, 60, .inl (upd v at9 x9))), (a2, .inl (cI, 60, .inl hf)), (a3, .inl (cI, 60, .inl ad)), (a4, .inl (cI, 12, .inl gg)), (a5, .inl (cI, 61, .inl c1)), (a6, .inl (cI, 61, .inl d1)), (a7, .inl (cI, 61, .inl e1)), (a8, .inl (cI, 6, .inl (kq (nI n) (nI len) (nI ll) pen bf bl))), (a9, .inl (cI, 60, .inl r1)), (aA, .inl (cI, 60, .inl o1))] ++ w_2) := hD
  refine wt_i hr9 ?_
  refine lv_istore (lv' := [(18, .int (v at9)), (17, .int (v at9)), (0, .ref b), (1, .ref o6), (2, .ref a1), (3, .ref a2), (4, .ref a3), (5, .ref a4), (6, .ref a5), (7, .ref a6), (8, .ref a7), (9, .ref a9), (10, .ref aA), (11, .ref a8), (12, .int (nI i)), (13, .int z9), (14, .int (nI act)), (15, .int x9), (16, .int (nI at9))]) hx hb dL_law_396 hl (by decide) rfl (fun ls hl => ?_)
  refine lv_goto (tgt := 738) hx hb dL_law_398 (by decide) ?_
  refine W.widen (k := cells + 1) (n := slots + 6) (by show cells + 0 ≤ cells + 1; omega) (by show slots + 0 ≤ slots + 6; omega) ?_
  exact t_so (tl9 := v at9) (z9 := z9) E hi70 (by show cells + 3 ≤ room_1.cells; omega) (by show slots + 18 ≤ room_1.slots; omega) (fun H locs ls h9 => kk H locs ls h9) (kOk_correct hok (kin_of hx1 hx2)) hst hP hD hS (lv_sub hl [2, 3, 4, 5, 6, 7, 8, 9, 10, 11, 12, 13, 14, 15, 1, 0] rfl) 

set_option maxHeartbeats 4000000 in
set_option maxRecDepth 100000 in
theorem t_hol {p : Program} {l : Launch} {e : Env} {s : State} {m : MethodId} {below : List Frame} {meth : Method} {c : Code} {Q : State → Prop} {D : va_G} {cI cZ cJ : ClassId} {b L i cells slots : Nat} {xs : Nat → Int32} {H : Heap} {locs : List Loc} {ls : Array Slot} {v hf : Nat → Int32} {n len ll : Nat} {pen bf bl : Int32} {o6 a1 a2 a3 a4 a5 a6 a7 a8 a9 aA : Nat} {ad gg c1 d1 e1 r1 o1 : Nat → Int32} {w6 : va_W} {z9 x9 : Int32} {act at9 : Nat} (E : lwE p l s m c D cI cZ cJ b L xs) (hi70 : i < 70) (hrc : cells + 3 ≤ room_1.cells) (hrs : slots + 18 ≤ room_1.slots) (kk : ∀ (H : Heap) (locs : List Loc) (ls : Array Slot), lwI s D cI cZ cJ b (i + 1) H locs ls → W p l e room_1 s m #[Value.ref b] below meth c H locs (cells + 3) (slots + 18) Q (F0 m 97 ls [])) (hok : kOk v hf n len ll pen bf bl) (hst : kSt cI cZ v hf n len ll pen bf bl 0 o6 w6) (hP : va_P D vwCl ([(a1, .inl (cI, 60, .inl v)), (a2, .inl (cI, 60, .inl hf)), (a3, .inl (cI, 60, .inl ad)), (a4, .inl (cI, 12, .inl gg)), (a5, .inl (cI, 61, .inl c1)), (a6, .inl (cI, 61, .inl d1)), (a7, .inl (cI, 61, .inl e1)), (a8, .inl (cI, 6, .inl (kq (nI n) (nI len) (nI ll) pen bf bl))), (a9, .inl (cI, 60, .inl r1)), (aA, .inl (cI, 60, .inl o1))] ++ w6) H) (hD : va_D (lwA s) ([(a1, .inl (cI, 60, .inl v)), (a2, .inl (cI, 60, .inl hf)), (a3, .inl (cI, 60, .inl ad)), (a4, .inl (cI, 12, .inl gg)), (a5, .inl (cI, 61, .inl c1)), (a6, .inl (cI, 61, .inl d1)), (a7, .inl (cI, 61, .inl e1)), (a8, .inl (cI, 6, .inl (kq (nI n) (nI len) (nI ll) pen bf bl))), (a9, .inl (cI, 60, .inl r1)), (aA, .inl (cI, 60, .inl o1))] ++ w6)) (hS : va_S (lwA s) s.heap H locs) (hl : lv_has ls 22 [(0, .ref b), (1, .ref o6), (2, .ref a1), (3, .ref a2), (4, .ref a3), (5, .ref a4), (6, .ref a5), (7, .ref a6), (8, .ref a7), (9, .ref a9), (10, .ref aA), (11, .ref a8), (12, .int (nI i)), (13, .int z9), (14, .int (nI act)), (15, .int x9), (16, .int (nI at9)), (17, .int (nI 0)), (18, .int (nI 0))]) (hatn : at9 < n) : W p l e room_1 s m #[Value.ref b] below meth c H locs cells slots Q (F0 m 408 ls []) := by
  obtain ⟨hx, hb, hml, hown, hts, hX, hbl, hK, hE, hlf, hL⟩ := id E
  obtain ⟨hn, hbit, hln1, hln2, hll, hlm, hvb, hpb, hbb, hfb⟩ := id hok
  have hA : ∀ q : Nat, s.heap.size ≤ q → lwA s q := fun _ h => h
  have hbA : ¬ lwA s b := Nat.not_le.mpr hbl
  refine lv_aload_n hx hb dL_law_408 rfl (lv_at hl 3 rfl) ?_
  refine lv_iload hx hb dL_law_409 (lv_at hl 16 rfl) ?_
  refine va_iald (D := D) hx hb hK hP 1 0 rfl rfl (vp_in_nI (by omega) (by decide)) dL_law_411 ?_
  refine wt_i (by rw [nI_clamp (n := at9) (by omega)]) ?_
  refine lv_istore (lv' := [(17, .int (hf at9)), (0, .ref b), (1, .ref o6), (2, .ref a1), (3, .ref a2), (4, .ref a3), (5, .ref a4), (6, .ref a5), (7, .ref a6), (8, .ref a7), (9, .ref a9), (10, .ref aA), (11, .ref a8), (12, .int (nI i)), (13, .int z9), (14, .int (nI act)), (15, .int x9), (16, .int (nI at9)), (18, .int (nI 0))]) hx hb dL_law_412 hl (by decide) rfl (fun ls hl => ?_)
  refine wl_join2 (pc2 := 433) (fun (stk : List Value) (H : Heap) (locs : List Loc) (ls : Array Slot) => ∃ (hb9 : Int32), stk = [.int hb9, .int (nI at9), .ref a2] ∧ (kbit hb9) ∧ va_P D vwCl ([(a1, .inl (cI, 60, .inl v)), (a2, .inl (cI, 60, .inl hf)), (a3, .inl (cI, 60, .inl ad)), (a4, .inl (cI, 12, .inl gg)), (a5, .inl (cI, 61, .inl c1)), (a6, .inl (cI, 61, .inl d1)), (a7, .inl (cI, 61, .inl e1)), (a8, .inl (cI, 6, .inl (kq (nI n) (nI len) (nI ll) pen bf bl))), (a9, .inl (cI, 60, .inl r1)), (aA, .inl (cI, 60, .inl o1))] ++ w6) H ∧ va_D (lwA s) ([(a1, .inl (cI, 60, .inl v)), (a2, .inl (cI, 60, .inl hf)), (a3, .inl (cI, 60, .inl ad)), (a4, .inl (cI, 12, .inl gg)), (a5, .inl (cI, 61, .inl c1)), (a6, .inl (cI, 61, .inl d1)), (a7, .inl (cI, 61, .inl e1)), (a8, .inl (cI, 6, .inl (kq (nI n) (nI len) (nI ll) pen bf bl))), (a9, .inl (cI, 60, .inl r1)), (aA, .inl (cI, 60, .inl o1))] ++ w6) ∧ va_S (lwA s) s.heap H locs ∧ lv_has ls 22 [(17, .int (hf at9)), (0, .ref b), (1, .ref o6), (2, .ref a1), (3, .ref a2), (4, .ref a3), (5, .ref a4), (6, .ref a5), (7, .ref a6), (8, .ref a7), (9, .ref a9), (10, .ref aA), (11, .ref a8), (12, .int (nI i)), (13, .int z9), (14, .int (nI act)), (15, .int x9), (16, .int (nI at9)), (18, .int (nI 0))]) ?_ (fun j_1 => ?_)
  · skip
    rintro stk H locs ls ⟨hb9, rfl, hbb9, hP, hD, hS, hl⟩
    refine va_iast (D := D) hx hb hK hP hD hS 1 0 rfl rfl (vp_in_nI (by omega) (by decide)) dL_law_433 (fun H locs hP hD hS => ?_)
    rw [nI_clamp (n := at9) (by omega)] at hP hD
    have hP : va_P D vwCl ([(a1, .inl (cI, 60, .inl v)), (a2, .inl (cI, 60, .inl (upd hf at9 hb9))), (a3, .inl (cI, 60, .inl ad)), (a4, .inl (cI, 12, .inl gg)), (a5, .inl (cI, 61, .inl c1)), (a6, .inl (cI, 61, .inl d1)), (a7, .inl (cI, 61, .inl e1)), (a8, .inl (cI, 6, .inl (kq (nI n) (nI len) (nI ll) pen bf bl))), (a9, .inl (cI, 60, .inl r1)), (aA, .inl (cI, 60, .inl o1))] ++ w6) H := hP
    have hD : va_D (lwA s) ([(a1, .inl (cI, 60, .inl v)), (a2, .inl (cI, 60, .inl (upd hf at9 hb9))), (a3, .inl (cI, 60, .inl ad)), (a4, .inl (cI, 12, .inl gg)), (a5, .inl (cI, 61, .inl c1)), (a6, .inl (cI, 61, .inl d1)), (a7, .inl (cI, 61, .inl e1)), (a8, .inl (cI, 6, .inl (kq (nI n) (nI len) (nI ll) pen bf bl))), (a9, .inl (cI, 60, .inl r1)), (aA, .inl (cI, 60, .inl o1))] ++ w6) := hD
    refine wl_join2 (pc2 := 450) (fun (stk : List Value) (H : Heap) (locs : List Loc) (ls : Array Slot) => ∃ (hc9 : Int32), stk = [.int hc9, .int (nI at9), .ref o6] ∧ (hb9 = hc9) ∧ va_P D vwCl ([(a1, .inl (cI, 60, .inl v)), (a2, .inl (cI, 60, .inl (upd hf at9 hb9))), (a3, .inl (cI, 60, .inl ad)), (a4, .inl (cI, 12, .inl gg)), (a5, .inl (cI, 61, .inl c1)), (a6, .inl (cI, 61, .inl d1)), (a7, .inl (cI, 61, .inl e1)), (a8, .inl (cI, 6, .inl (kq (nI n) (nI len) (nI ll) pen bf bl))), (a9, .inl (cI, 60, .inl r1)), (aA, .inl (cI, 60, .inl o1))] ++ w6) H ∧ va_D (lwA s) ([(a1, .inl (cI, 60, .inl v)), (a2, .inl (cI, 60, .inl (upd hf at9 hb9))), (a3, .inl (cI, 60, .inl ad)), (a4, .inl (cI, 12, .inl gg)), (a5, .inl (cI, 61, .inl c1)), (a6, .inl (cI, 61, .inl d1)), (a7, .inl (cI, 61, .inl e1)), (a8, .inl (cI, 6, .inl (kq (nI n) (nI len) (nI ll) pen bf bl))), (a9, .inl (cI, 60, .inl r1)), (aA, .inl (cI, 60, .inl o1))] ++ w6) ∧ va_S (lwA s) s.heap H locs ∧ lv_has ls 22 [(17, .int (hf at9)), (0, .ref b), (1, .ref o6), (2, .ref a1), (3, .ref a2), (4, .ref a3), (5, .ref a4), (6, .ref a5), (7, .ref a6), (8, .ref a7), (9, .ref a9), (10, .ref aA), (11, .ref a8), (12, .int (nI i)), (13, .int z9), (14, .int (nI act)), (15, .int x9), (16, .int (nI at9)), (18, .int (nI 0))]) ?_ (fun j_2 => ?_)
    · skip
      rintro stk H locs ls ⟨hc9, rfl, hce9, hP, hD, hS, hl⟩
      subst hce9
      refine klci (X := [(a1, .inl (cI, 60, .inl v)), (a2, .inl (cI, 60, .inl (upd hf at9 hb9))), (a3, .inl (cI, 60, .inl ad)), (a4, .inl (cI, 12, .inl gg)), (a5, .inl (cI, 61, .inl c1)), (a6, .inl (cI, 61, .inl d1)), (a7, .inl (cI, 61, .inl e1)), (a8, .inl (cI, 6, .inl (kq (nI n) (nI len) (nI ll) pen bf bl))), (a9, .inl (cI, 60, .inl r1)), (aA, .inl (cI, 60, .inl o1))]) (pl := w6) (va_runV (As := [.int (nI at9), .int hb9]) (rest := []) ⟨hx, hb, hml, hown, hts⟩ (c_X6_setHoliday l D cI cZ cJ H.size v hf n len ll pen bf bl o6 w6 at9 hb9 hok hst hatn hbb9) (cwV 2 hts gL_law_X6_setHoliday rfl rfl rfl (by decide +kernel) ⟨Nat.le_of_ble_eq_true rfl, Nat.le_of_ble_eq_true rfl⟩) (kpreL hK hP hD rfl (kSt_recv hst)) rfl rfl hl.1 rfl (lv_room (Nat.le_of_ble_eq_true rfl)) dL_law_450 ⟨by show cells + 0 ≤ room_1.cells; omega, by show slots + 0 ≤ room_1.slots; omega⟩) hP hD hS hA (fun r_3 w_4 H locs hw hP hD hS => ?_)
      obtain ⟨hr9, hst⟩ := hw
      have hP : va_P D vwCl ([(a1, .inl (cI, 60, .inl v)), (a2, .inl (cI, 60, .inl (upd hf at9 hb9))), (a3, .inl (cI, 60, .inl ad)), (a4, .inl (cI, 12, .inl gg)), (a5, .inl (cI, 61, .inl c1)), (a6, .inl (cI, 61, .inl d1)), (a7, .inl (cI, 61, .inl e1)), (a8, .inl (cI, 6, .inl (kq (nI n) (nI len) (nI ll) pen bf bl))), (a9, .inl (cI, 60, .inl r1)), (aA, .inl (cI, 60, .inl o1))] ++ w_4) H := hP
      have hD : va_D (lwA s) ([(a1, .inl (cI, 60, .inl v)), (a2, .inl (cI, 60, .inl (upd hf at9 hb9))), (a3, .inl (cI, 60, .inl ad)), (a4, .inl (cI, 12, .inl gg)), (a5, .inl (cI, 61, .inl c1)), (a6, .inl (cI, 61, .inl d1)), (a7, .inl (cI, 61, .inl e1)), (a8, .inl (cI, 6, .inl (kq (nI n) (nI len) (nI ll) pen bf bl))), (a9, .inl (cI, 60, .inl r1)), (aA, .inl (cI, 60, .inl o1))] ++ w_4) := hD
      refine wt_i hr9 ?_
      refine lv_if_eq (tgt := 460) hx hb dL_law_453 (by decide) (fun c453 => ?_) (fun c453 => ?_)
      · skip
        refine lv_iconst (v := nI 0) hx hb dL_law_460 (by decide) ?_
        refine wt_i (y := hf at9) (show nI 0 = hf at9 from c453.symm) ?_
        refine lv_istore (lv' := [(18, .int (hf at9)), (17, .int (hf at9)), (0, .ref b), (1, .ref o6), (2, .ref a1), (3, .ref a2), (4, .ref a3), (5, .ref a4), (6, .ref a5), (7, .ref a6), (8, .ref a7), (9, .ref a9), (10, .ref aA), (11, .ref a8), (12, .int (nI i)), (13, .int z9), (14, .int (nI act)), (15, .int x9), (16, .int (nI at9))]) hx hb dL_law_461 hl (by decide) rfl (fun ls hl => ?_)
        refine lv_goto (tgt := 738) hx hb dL_law_463 (by decide) ?_
        refine W.widen (k := cells + 1) (n := slots + 6) (by show cells + 0 ≤ cells + 1; omega) (by show slots + 0 ≤ slots + 6; omega) ?_
        exact t_so (tl9 := hf at9) (z9 := z9) E hi70 (by show cells + 3 ≤ room_1.cells; omega) (by show slots + 18 ≤ room_1.slots; omega) (fun H locs ls h9 => kk H locs ls h9) (kOk_holiday hok hbb9) hst hP hD hS (lv_sub hl [2, 3, 4, 5, 6, 7, 8, 9, 10, 11, 12, 13, 14, 15, 1, 0] rfl) 
      · skip
        refine lv_iconst (v := nI 1) hx hb dL_law_456 (by decide) ?_
        refine wt_i (y := hf at9) (show nI 1 = hf at9 from (hbit at9).elim (fun z8 => absurd z8 c453) (fun z8 => z8.symm)) ?_
        refine lv_goto (tgt := 461) hx hb dL_law_457 (by decide) ?_
        refine lv_istore (lv' := [(18, .int (hf at9)), (17, .int (hf at9)), (0, .ref b), (1, .ref o6), (2, .ref a1), (3, .ref a2), (4, .ref a3), (5, .ref a4), (6, .ref a5), (7, .ref a6), (8, .ref a7), (9, .ref a9), (10, .ref aA), (11, .ref a8), (12, .int (nI i)), (13, .int z9), (14, .int (nI act)), (15, .int x9), (16, .int (nI at9))]) hx hb dL_law_461 hl (by decide) rfl (fun ls hl => ?_)
        refine lv_goto (tgt := 738) hx hb dL_law_463 (by decide) ?_
        refine W.widen (k := cells + 1) (n := slots + 6) (by show cells + 0 ≤ cells + 1; omega) (by show slots + 0 ≤ slots + 6; omega) ?_
        exact t_so (tl9 := hf at9) (z9 := z9) E hi70 (by show cells + 3 ≤ room_1.cells; omega) (by show slots + 18 ≤ room_1.slots; omega) (fun H locs ls h9 => kk H locs ls h9) (kOk_holiday hok hbb9) hst hP hD hS (lv_sub hl [2, 3, 4, 5, 6, 7, 8, 9, 10, 11, 12, 13, 14, 15, 1, 0] rfl) 
    refine lv_aload_n hx hb dL_law_434 rfl (lv_at hl 2 rfl) ?_
    refine lv_iload hx hb dL_law_435 (lv_at hl 17 rfl) ?_
    refine lv_aload_n hx hb dL_law_437 rfl (lv_at hl 4 rfl) ?_
    refine lv_iload hx hb dL_law_438 (lv_at hl 17 rfl) ?_
    refine va_iald (D := D) hx hb hK hP 1 0 rfl rfl (vp_in_nI (by omega) (by decide)) dL_law_440 ?_
    refine wt_i (by rw [nI_clamp (n := at9) (by omega)]) ?_
    refine wt_i (y := hb9) (show _ = hb9 from pk_us) ?_
    refine lv_iconst (v := nI 1) hx hb dL_law_441 (by decide) ?_
    refine lv_icmp_ne (tgt := 449) hx hb dL_law_442 (by decide) (fun c442 => ?_) (fun c442 => ?_)
    · skip
      refine lv_iconst (v := nI 0) hx hb dL_law_449 (by decide) ?_
      exact j_2 _ _ _ _ ⟨nI 0, rfl, hbb9.elim id (fun z8 => absurd z8 c442), hP, hD, hS, lv_sub hl [0, 1, 2, 3, 4, 5, 6, 7, 8, 9, 10, 11, 12, 13, 14, 15, 16, 17, 18] rfl⟩
    · skip
      refine lv_iconst (v := nI 1) hx hb dL_law_445 (by decide) ?_
      refine lv_goto (tgt := 450) hx hb dL_law_446 (by decide) ?_
      exact j_2 _ _ _ _ ⟨nI 1, rfl, c442, hP, hD, hS, lv_sub hl [0, 1, 2, 3, 4, 5, 6, 7, 8, 9, 10, 11, 12, 13, 14, 15, 16, 17, 18] rfl⟩
  refine lv_aload_n hx hb dL_law_414 rfl (lv_at hl 4 rfl) ?_
  refine lv_iload hx hb dL_law_415 (lv_at hl 17 rfl) ?_
  refine lv_iload hx hb dL_law_417 (lv_at hl 14 rfl) ?_
  refine lv_iconst (v := nI 5) hx hb dL_law_419 (by decide) ?_
  refine lv_ishr hx hb dL_law_420 ?_
  refine lv_iconst (v := nI 3) hx hb dL_law_421 (by decide) ?_
  refine klhi (X := [(a1, .inl (cI, 60, .inl v)), (a2, .inl (cI, 60, .inl hf)), (a3, .inl (cI, 60, .inl ad)), (a4, .inl (cI, 12, .inl gg)), (a5, .inl (cI, 61, .inl c1)), (a6, .inl (cI, 61, .inl d1)), (a7, .inl (cI, 61, .inl e1)), (a8, .inl (cI, 6, .inl (kq (nI n) (nI len) (nI ll) pen bf bl))), (a9, .inl (cI, 60, .inl r1)), (aA, .inl (cI, 60, .inl o1))]) (pl := w6) (wr := [(a1, .inl (cI, 60, .inl v)), (a2, .inl (cI, 60, .inl hf)), (a3, .inl (cI, 60, .inl ad)), (a4, .inl (cI, 12, .inl gg)), (a5, .inl (cI, 61, .inl c1)), (a6, .inl (cI, 61, .inl d1)), (a7, .inl (cI, 61, .inl e1)), (a8, .inl (cI, 6, .inl (kq (nI n) (nI len) (nI ll) pen bf bl))), (a9, .inl (cI, 60, .inl r1)), (aA, .inl (cI, 60, .inl o1))]) (pre := []) (va_runS (As := [.int (z9 >>> (nI 5 &&& 31)), .int (nI 3)]) (rest := [.int (nI at9), .ref a2]) ⟨hx, hb, hml, hown, hts⟩ (c_L_low l D cI cZ cJ H.size (z9 >>> (nI 5 &&& 31)) 3 (by first | assumption | omega) (by first | assumption | omega)) (va_cwS 2 hts gL_law_L_low rfl rfl rfl (by decide +kernel) ⟨Nat.le_of_ble_eq_true rfl, Nat.le_of_ble_eq_true rfl⟩) (kpreH hK hP hD [] (by decide +kernel) rfl) rfl rfl hl.1 rfl (lv_room (Nat.le_of_ble_eq_true rfl)) dL_law_422 ⟨by show cells + 0 ≤ room_1.cells; omega, by show slots + 0 ≤ room_1.slots; omega⟩) hP hD hS hA [] [0, 1, 2, 3, 4, 5, 6, 7, 8, 9] rfl rfl (by decide +kernel) (by decide +kernel) (fun r_6 kh1 H locs hw hP hD hS => ?_)
  have hP : va_P D vwCl ([(a1, .inl (cI, 60, .inl v)), (a2, .inl (cI, 60, .inl hf)), (a3, .inl (cI, 60, .inl ad)), (a4, .inl (cI, 12, .inl gg)), (a5, .inl (cI, 61, .inl c1)), (a6, .inl (cI, 61, .inl d1)), (a7, .inl (cI, 61, .inl e1)), (a8, .inl (cI, 6, .inl (kq (nI n) (nI len) (nI ll) pen bf bl))), (a9, .inl (cI, 60, .inl r1)), (aA, .inl (cI, 60, .inl o1))] ++ w6) H := hP
  have hD : va_D (lwA s) ([(a1, .inl (cI, 60, .inl v)), (a2, .inl (cI, 60, .inl hf)), (a3, .inl (cI, 60, .inl ad)), (a4, .inl (cI, 12, .inl gg)), (a5, .inl (cI, 61, .inl c1)), (a6, .inl (cI, 61, .inl d1)), (a7, .inl (cI, 61, .inl e1)), (a8, .inl (cI, 6, .inl (kq (nI n) (nI len) (nI ll) pen bf bl))), (a9, .inl (cI, 60, .inl r1)), (aA, .inl (cI, 60, .inl o1))] ++ w6) := hD
  have hw : r_6 = nI kh1 ∧ (kh1 = klow (z9 >>> (nI 5 &&& 31)) 3 ∧ kh1 < 3) := hw
  obtain ⟨hr9, hh1⟩ := hw
  refine wt_i hr9 ?_
  obtain ⟨hh1a, hh1b⟩ := hh1
  refine lv_if_ne (tgt := 432) hx hb dL_law_425 (by decide) (fun c425 => ?_) (fun c425 => ?_)
  · skip
    have c425 := kneq (a := kh1) (b := 0) c425 (by omega) (by omega)
    refine lv_iconst (v := nI 1) hx hb dL_law_432 (by decide) ?_
    exact j_1 _ _ _ _ ⟨nI 1, rfl, Or.inr rfl, hP, hD, hS, lv_sub hl [0, 1, 2, 3, 4, 5, 6, 7, 8, 9, 10, 11, 12, 13, 14, 15, 16, 17, 18] rfl⟩
  · skip
    have c425 := keq (a := kh1) (b := 0) c425 (by omega) (by omega)
    refine lv_iconst (v := nI 0) hx hb dL_law_428 (by decide) ?_
    refine lv_goto (tgt := 433) hx hb dL_law_429 (by decide) ?_
    exact j_1 _ _ _ _ ⟨nI 0, rfl, Or.inl rfl, hP, hD, hS, lv_sub hl [0, 1, 2, 3, 4, 5, 6, 7, 8, 9, 10, 11, 12, 13, 14, 15, 16, 17, 18] rfl⟩

set_option maxHeartbeats 4000000 in
set_option maxRecDepth 100000 in
theorem t_drop {p : Program} {l : Launch} {e : Env} {s : State} {m : MethodId} {below : List Frame} {meth : Method} {c : Code} {Q : State → Prop} {D : va_G} {cI cZ cJ : ClassId} {b L i cells slots : Nat} {xs : Nat → Int32} {H : Heap} {locs : List Loc} {ls : Array Slot} {v hf : Nat → Int32} {n len ll : Nat} {pen bf bl : Int32} {o6 a1 a2 a3 a4 a5 a6 a7 a8 a9 aA : Nat} {ad gg c1 d1 e1 r1 o1 : Nat → Int32} {w6 : va_W} {z9 x9 : Int32} {act at9 : Nat} (E : lwE p l s m c D cI cZ cJ b L xs) (hi70 : i < 70) (hrc : cells + 3 ≤ room_1.cells) (hrs : slots + 18 ≤ room_1.slots) (kk : ∀ (H : Heap) (locs : List Loc) (ls : Array Slot), lwI s D cI cZ cJ b (i + 1) H locs ls → W p l e room_1 s m #[Value.ref b] below meth c H locs (cells + 3) (slots + 18) Q (F0 m 97 ls [])) (hok : kOk v hf n len ll pen bf bl) (hst : kSt cI cZ v hf n len ll pen bf bl 0 o6 w6) (hP : va_P D vwCl ([(a1, .inl (cI, 60, .inl v)), (a2, .inl (cI, 60, .inl hf)), (a3, .inl (cI, 60, .inl ad)), (a4, .inl (cI, 12, .inl gg)), (a5, .inl (cI, 61, .inl c1)), (a6, .inl (cI, 61, .inl d1)), (a7, .inl (cI, 61, .inl e1)), (a8, .inl (cI, 6, .inl (kq (nI n) (nI len) (nI ll) pen bf bl))), (a9, .inl (cI, 60, .inl r1)), (aA, .inl (cI, 60, .inl o1))] ++ w6) H) (hD : va_D (lwA s) ([(a1, .inl (cI, 60, .inl v)), (a2, .inl (cI, 60, .inl hf)), (a3, .inl (cI, 60, .inl ad)), (a4, .inl (cI, 12, .inl gg)), (a5, .inl (cI, 61, .inl c1)), (a6, .inl (cI, 61, .inl d1)), (a7, .inl (cI, 61, .inl e1)), (a8, .inl (cI, 6, .inl (kq (nI n) (nI len) (nI ll) pen bf bl))), (a9, .inl (cI, 60, .inl r1)), (aA, .inl (cI, 60, .inl o1))] ++ w6)) (hS : va_S (lwA s) s.heap H locs) (hl : lv_has ls 22 [(0, .ref b), (1, .ref o6), (2, .ref a1), (3, .ref a2), (4, .ref a3), (5, .ref a4), (6, .ref a5), (7, .ref a6), (8, .ref a7), (9, .ref a9), (10, .ref aA), (11, .ref a8), (12, .int (nI i)), (13, .int z9), (14, .int (nI act)), (15, .int x9), (16, .int (nI at9)), (17, .int (nI 0)), (18, .int (nI 0))]) : W p l e room_1 s m #[Value.ref b] below meth c H locs cells slots Q (F0 m 473 ls []) := by
  obtain ⟨hx, hb, hml, hown, hts, hX, hbl, hK, hE, hlf, hL⟩ := id E
  obtain ⟨hn, hbit, hln1, hln2, hll, hlm, hvb, hpb, hbb, hfb⟩ := id hok
  have hA : ∀ q : Nat, s.heap.size ≤ q → lwA s q := fun _ h => h
  have hbA : ¬ lwA s b := Nat.not_le.mpr hbl
  refine lv_iload hx hb dL_law_473 (lv_at hl 13 rfl) ?_
  refine lv_iconst (v := nI 5) hx hb dL_law_475 (by decide) ?_
  refine lv_ishr hx hb dL_law_476 ?_
  refine wl_join2 (pc2 := 513) (fun (stk : List Value) (H : Heap) (locs : List Loc) (ls : Array Slot) => ∃ (bd : Nat), stk = [.int (nI bd), .int (z9 >>> (nI 5 &&& 31))] ∧ (1 ≤ bd ∧ bd ≤ n + 1) ∧ va_P D vwCl ([(a1, .inl (cI, 60, .inl v)), (a2, .inl (cI, 60, .inl hf)), (a3, .inl (cI, 60, .inl ad)), (a4, .inl (cI, 12, .inl gg)), (a5, .inl (cI, 61, .inl c1)), (a6, .inl (cI, 61, .inl d1)), (a7, .inl (cI, 61, .inl e1)), (a8, .inl (cI, 6, .inl (kq (nI n) (nI len) (nI ll) pen bf bl))), (a9, .inl (cI, 60, .inl r1)), (aA, .inl (cI, 60, .inl o1))] ++ w6) H ∧ va_D (lwA s) ([(a1, .inl (cI, 60, .inl v)), (a2, .inl (cI, 60, .inl hf)), (a3, .inl (cI, 60, .inl ad)), (a4, .inl (cI, 12, .inl gg)), (a5, .inl (cI, 61, .inl c1)), (a6, .inl (cI, 61, .inl d1)), (a7, .inl (cI, 61, .inl e1)), (a8, .inl (cI, 6, .inl (kq (nI n) (nI len) (nI ll) pen bf bl))), (a9, .inl (cI, 60, .inl r1)), (aA, .inl (cI, 60, .inl o1))] ++ w6) ∧ va_S (lwA s) s.heap H locs ∧ lv_has ls 22 [(0, .ref b), (1, .ref o6), (2, .ref a1), (3, .ref a2), (4, .ref a3), (5, .ref a4), (6, .ref a5), (7, .ref a6), (8, .ref a7), (9, .ref a9), (10, .ref aA), (11, .ref a8), (12, .int (nI i)), (13, .int z9), (14, .int (nI act)), (15, .int x9), (16, .int (nI at9)), (17, .int (nI 0)), (18, .int (nI 0))]) ?_ (fun j_1 => ?_)
  · skip
    rintro stk H locs ls ⟨bd, rfl, hbd, hP, hD, hS, hl⟩
    refine klhi (X := [(a1, .inl (cI, 60, .inl v)), (a2, .inl (cI, 60, .inl hf)), (a3, .inl (cI, 60, .inl ad)), (a4, .inl (cI, 12, .inl gg)), (a5, .inl (cI, 61, .inl c1)), (a6, .inl (cI, 61, .inl d1)), (a7, .inl (cI, 61, .inl e1)), (a8, .inl (cI, 6, .inl (kq (nI n) (nI len) (nI ll) pen bf bl))), (a9, .inl (cI, 60, .inl r1)), (aA, .inl (cI, 60, .inl o1))]) (pl := w6) (wr := [(a1, .inl (cI, 60, .inl v)), (a2, .inl (cI, 60, .inl hf)), (a3, .inl (cI, 60, .inl ad)), (a4, .inl (cI, 12, .inl gg)), (a5, .inl (cI, 61, .inl c1)), (a6, .inl (cI, 61, .inl d1)), (a7, .inl (cI, 61, .inl e1)), (a8, .inl (cI, 6, .inl (kq (nI n) (nI len) (nI ll) pen bf bl))), (a9, .inl (cI, 60, .inl r1)), (aA, .inl (cI, 60, .inl o1))]) (pre := []) (va_runS (As := [.int (z9 >>> (nI 5 &&& 31)), .int (nI bd)]) (rest := []) ⟨hx, hb, hml, hown, hts⟩ (c_L_low l D cI cZ cJ H.size (z9 >>> (nI 5 &&& 31)) bd (by first | assumption | omega) (by first | assumption | omega)) (va_cwS 2 hts gL_law_L_low rfl rfl rfl (by decide +kernel) ⟨Nat.le_of_ble_eq_true rfl, Nat.le_of_ble_eq_true rfl⟩) (kpreH hK hP hD [] (by decide +kernel) rfl) rfl rfl hl.1 rfl (lv_room (Nat.le_of_ble_eq_true rfl)) dL_law_513 ⟨by show cells + 0 ≤ room_1.cells; omega, by show slots + 0 ≤ room_1.slots; omega⟩) hP hD hS hA [] [0, 1, 2, 3, 4, 5, 6, 7, 8, 9] rfl rfl (by decide +kernel) (by decide +kernel) (fun r_2 mn H locs hw hP hD hS => ?_)
    have hP : va_P D vwCl ([(a1, .inl (cI, 60, .inl v)), (a2, .inl (cI, 60, .inl hf)), (a3, .inl (cI, 60, .inl ad)), (a4, .inl (cI, 12, .inl gg)), (a5, .inl (cI, 61, .inl c1)), (a6, .inl (cI, 61, .inl d1)), (a7, .inl (cI, 61, .inl e1)), (a8, .inl (cI, 6, .inl (kq (nI n) (nI len) (nI ll) pen bf bl))), (a9, .inl (cI, 60, .inl r1)), (aA, .inl (cI, 60, .inl o1))] ++ w6) H := hP
    have hD : va_D (lwA s) ([(a1, .inl (cI, 60, .inl v)), (a2, .inl (cI, 60, .inl hf)), (a3, .inl (cI, 60, .inl ad)), (a4, .inl (cI, 12, .inl gg)), (a5, .inl (cI, 61, .inl c1)), (a6, .inl (cI, 61, .inl d1)), (a7, .inl (cI, 61, .inl e1)), (a8, .inl (cI, 6, .inl (kq (nI n) (nI len) (nI ll) pen bf bl))), (a9, .inl (cI, 60, .inl r1)), (aA, .inl (cI, 60, .inl o1))] ++ w6) := hD
    have hw : r_2 = nI mn ∧ (mn = klow (z9 >>> (nI 5 &&& 31)) bd ∧ mn < bd) := hw
    obtain ⟨hr9, hmn⟩ := hw
    refine wt_i hr9 ?_
    obtain ⟨hmna, hmnb⟩ := hmn
    have hmn2 : mn ≤ n := by omega
    refine lv_istore (lv' := [(19, .int (nI mn)), (0, .ref b), (1, .ref o6), (2, .ref a1), (3, .ref a2), (4, .ref a3), (5, .ref a4), (6, .ref a5), (7, .ref a6), (8, .ref a7), (9, .ref a9), (10, .ref aA), (11, .ref a8), (12, .int (nI i)), (13, .int z9), (14, .int (nI act)), (15, .int x9), (16, .int (nI at9)), (17, .int (nI 0)), (18, .int (nI 0))]) hx hb dL_law_516 hl (by decide) rfl (fun ls hl => ?_)
    refine lv_aload hx hb dL_law_518 (lv_at hl 12 rfl) ?_
    refine lv_iconst (v := nI 0) hx hb dL_law_520 (by decide) ?_
    refine lv_dup2_11 hx hb dL_law_521 rfl rfl ?_
    refine va_iald (D := D) hx hb hK hP 7 0 rfl rfl (vp_in_nI (by omega) (by decide)) dL_law_522 ?_
    refine wt_i (by rw [nI_clamp (n := 0) (by omega)]) ?_
    refine wt_i (y := nI n) rfl ?_
    refine lv_iload hx hb dL_law_523 (lv_at hl 0 rfl) ?_
    refine lv_isub hx hb dL_law_525 ?_
    refine wt_i (pk_sub (by omega)) ?_
    refine va_iast (D := D) hx hb hK hP hD hS 7 0 rfl rfl (vp_in_nI (by omega) (by decide)) dL_law_526 (fun H locs hP hD hS => ?_)
    rw [nI_clamp (n := 0) (by omega)] at hP hD
    rw [show upd (kq (nI n) (nI len) (nI ll) pen bf bl) 0 (nI (n - mn)) = kq (nI (n - mn)) (nI len) (nI ll) pen bf bl from kq_u0 _ _ _ _ _ _ _] at hP hD
    have hP : va_P D vwCl ([(a1, .inl (cI, 60, .inl v)), (a2, .inl (cI, 60, .inl hf)), (a3, .inl (cI, 60, .inl ad)), (a4, .inl (cI, 12, .inl gg)), (a5, .inl (cI, 61, .inl c1)), (a6, .inl (cI, 61, .inl d1)), (a7, .inl (cI, 61, .inl e1)), (a8, .inl (cI, 6, .inl (kq (nI (n - mn)) (nI len) (nI ll) pen bf bl))), (a9, .inl (cI, 60, .inl r1)), (aA, .inl (cI, 60, .inl o1))] ++ w6) H := hP
    have hD : va_D (lwA s) ([(a1, .inl (cI, 60, .inl v)), (a2, .inl (cI, 60, .inl hf)), (a3, .inl (cI, 60, .inl ad)), (a4, .inl (cI, 12, .inl gg)), (a5, .inl (cI, 61, .inl c1)), (a6, .inl (cI, 61, .inl d1)), (a7, .inl (cI, 61, .inl e1)), (a8, .inl (cI, 6, .inl (kq (nI (n - mn)) (nI len) (nI ll) pen bf bl))), (a9, .inl (cI, 60, .inl r1)), (aA, .inl (cI, 60, .inl o1))] ++ w6) := hD
    refine lv_iconst (v := nI 0) hx hb dL_law_527 (by decide) ?_
    refine lv_istore (lv' := [(20, .int (nI 0)), (19, .int (nI mn)), (0, .ref b), (1, .ref o6), (2, .ref a1), (3, .ref a2), (4, .ref a3), (5, .ref a4), (6, .ref a5), (7, .ref a6), (8, .ref a7), (9, .ref a9), (10, .ref aA), (11, .ref a8), (12, .int (nI i)), (13, .int z9), (14, .int (nI act)), (15, .int x9), (16, .int (nI at9)), (17, .int (nI 0)), (18, .int (nI 0))]) hx hb dL_law_528 hl (by decide) rfl (fun ls hl => ?_)
    refine wl_loop (fun (d9 : Nat) (H : Heap) (locs : List Loc) (ls : Array Slot) => ∃ (k : Nat) (v3 : Nat → Int32) (h3 : Nat → Int32), d9 = n - mn - k ∧ (k ≤ n - mn) ∧ (∀ j, j < k → v3 j = v (j + mn)) ∧ (∀ j, k ≤ j → v3 j = v j) ∧ (∀ j, j < k → h3 j = hf (j + mn)) ∧ (∀ j, k ≤ j → h3 j = hf j) ∧ va_P D vwCl ([(a1, .inl (cI, 60, .inl v3)), (a2, .inl (cI, 60, .inl h3)), (a3, .inl (cI, 60, .inl ad)), (a4, .inl (cI, 12, .inl gg)), (a5, .inl (cI, 61, .inl c1)), (a6, .inl (cI, 61, .inl d1)), (a7, .inl (cI, 61, .inl e1)), (a8, .inl (cI, 6, .inl (kq (nI (n - mn)) (nI len) (nI ll) pen bf bl))), (a9, .inl (cI, 60, .inl r1)), (aA, .inl (cI, 60, .inl o1))] ++ w6) H ∧ va_D (lwA s) ([(a1, .inl (cI, 60, .inl v3)), (a2, .inl (cI, 60, .inl h3)), (a3, .inl (cI, 60, .inl ad)), (a4, .inl (cI, 12, .inl gg)), (a5, .inl (cI, 61, .inl c1)), (a6, .inl (cI, 61, .inl d1)), (a7, .inl (cI, 61, .inl e1)), (a8, .inl (cI, 6, .inl (kq (nI (n - mn)) (nI len) (nI ll) pen bf bl))), (a9, .inl (cI, 60, .inl r1)), (aA, .inl (cI, 60, .inl o1))] ++ w6) ∧ va_S (lwA s) s.heap H locs ∧ lv_has ls 22 [(20, .int (nI k)), (19, .int (nI mn)), (0, .ref b), (1, .ref o6), (2, .ref a1), (3, .ref a2), (4, .ref a3), (5, .ref a4), (6, .ref a5), (7, .ref a6), (8, .ref a7), (9, .ref a9), (10, .ref aA), (11, .ref a8), (12, .int (nI i)), (13, .int z9), (14, .int (nI act)), (15, .int x9), (16, .int (nI at9)), (17, .int (nI 0)), (18, .int (nI 0))]) ?_ _ ⟨0, _, _, rfl, Nat.zero_le _, fun j q9 => absurd q9 (Nat.not_lt_zero j), fun _ _ => rfl, fun j q9 => absurd q9 (Nat.not_lt_zero j), fun _ _ => rfl, hP, hD, hS, lv_sub hl [0, 1, 2, 3, 4, 5, 6, 7, 8, 9, 10, 11, 12, 13, 14, 15, 16, 17, 18, 19, 20] rfl⟩
    rintro d_4 H locs ls ⟨k, v3, h3, hd_5, hk, h1v3, h2v3, h1h3, h2h3, hP, hD, hS, hl⟩ ih_3
    refine lv_iload hx hb dL_law_530 (lv_at hl 0 rfl) ?_
    refine lv_aload hx hb dL_law_532 (lv_at hl 13 rfl) ?_
    refine lv_iconst (v := nI 0) hx hb dL_law_534 (by decide) ?_
    refine va_iald (D := D) hx hb hK hP 7 0 rfl rfl (vp_in_nI (by omega) (by decide)) dL_law_535 ?_
    refine wt_i (by rw [nI_clamp (n := 0) (by omega)]) ?_
    refine wt_i (y := nI (n - mn)) rfl ?_
    refine lv_icmp_ge (tgt := 567) hx hb dL_law_536 (by decide) (fun c536 => ?_) (fun c536 => ?_)
    · skip
      have c536 := kle (a := (n - mn)) (b := k) c536 (by omega) (by omega)
      have ek : k = n - mn := by omega
      have ev3 : v3 = kshift v n mn := funext fun j => by unfold kshift; split; exact h1v3 j (by omega); exact h2v3 j (by omega)
      have eh3 : h3 = kshift hf n mn := funext fun j => by unfold kshift; split; exact h1h3 j (by omega); exact h2h3 j (by omega)
      subst ev3
      subst eh3
      refine lv_aload hx hb dL_law_567 (lv_at hl 13 rfl) ?_
      refine lv_iconst (v := nI 0) hx hb dL_law_569 (by decide) ?_
      refine va_iald (D := D) hx hb hK hP 7 0 rfl rfl (vp_in_nI (by omega) (by decide)) dL_law_570 ?_
      refine wt_i (by rw [nI_clamp (n := 0) (by omega)]) ?_
      refine wt_i (y := nI (n - mn)) rfl ?_
      refine lv_istore (lv' := [(17, .int (nI (n - mn))), (20, .int (nI k)), (19, .int (nI mn)), (0, .ref b), (1, .ref o6), (2, .ref a1), (3, .ref a2), (4, .ref a3), (5, .ref a4), (6, .ref a5), (7, .ref a6), (8, .ref a7), (9, .ref a9), (10, .ref aA), (11, .ref a8), (12, .int (nI i)), (13, .int z9), (14, .int (nI act)), (15, .int x9), (16, .int (nI at9)), (18, .int (nI 0))]) hx hb dL_law_571 hl (by decide) rfl (fun ls hl => ?_)
      refine lv_aload_n hx hb dL_law_573 rfl (lv_at hl 4 rfl) ?_
      refine lv_iload hx hb dL_law_574 (lv_at hl 2 rfl) ?_
      refine klci (X := [(a1, .inl (cI, 60, .inl (kshift v n mn))), (a2, .inl (cI, 60, .inl (kshift hf n mn))), (a3, .inl (cI, 60, .inl ad)), (a4, .inl (cI, 12, .inl gg)), (a5, .inl (cI, 61, .inl c1)), (a6, .inl (cI, 61, .inl d1)), (a7, .inl (cI, 61, .inl e1)), (a8, .inl (cI, 6, .inl (kq (nI (n - mn)) (nI len) (nI ll) pen bf bl))), (a9, .inl (cI, 60, .inl r1)), (aA, .inl (cI, 60, .inl o1))]) (pl := w6) (va_runV (As := [.int (nI mn)]) (rest := []) ⟨hx, hb, hml, hown, hts⟩ (c_X6_drop l D cI cZ cJ H.size v hf n len ll pen bf bl o6 w6 mn hok hst hmn2) (cwV 1 hts gL_law_X6_drop rfl rfl rfl (by decide +kernel) ⟨Nat.le_of_ble_eq_true rfl, Nat.le_of_ble_eq_true rfl⟩) (kpreL hK hP hD rfl (kSt_recv hst)) rfl rfl hl.1 rfl (lv_room (Nat.le_of_ble_eq_true rfl)) dL_law_576 ⟨by show cells + 0 ≤ room_1.cells; omega, by show slots + 0 ≤ room_1.slots; omega⟩) hP hD hS hA (fun r_6 w_7 H locs hw hP hD hS => ?_)
      obtain ⟨hr9, hst⟩ := hw
      have hP : va_P D vwCl ([(a1, .inl (cI, 60, .inl (kshift v n mn))), (a2, .inl (cI, 60, .inl (kshift hf n mn))), (a3, .inl (cI, 60, .inl ad)), (a4, .inl (cI, 12, .inl gg)), (a5, .inl (cI, 61, .inl c1)), (a6, .inl (cI, 61, .inl d1)), (a7, .inl (cI, 61, .inl e1)), (a8, .inl (cI, 6, .inl (kq (nI (n - mn)) (nI len) (nI ll) pen bf bl))), (a9, .inl (cI, 60, .inl r1)), (aA, .inl (cI, 60, .inl o1))] ++ w_7) H := hP
      have hD : va_D (lwA s) ([(a1, .inl (cI, 60, .inl (kshift v n mn))), (a2, .inl (cI, 60, .inl (kshift hf n mn))), (a3, .inl (cI, 60, .inl ad)), (a4, .inl (cI, 12, .inl gg)), (a5, .inl (cI, 61, .inl c1)), (a6, .inl (cI, 61, .inl d1)), (a7, .inl (cI, 61, .inl e1)), (a8, .inl (cI, 6, .inl (kq (nI (n - mn)) (nI len) (nI ll) pen bf bl))), (a9, .inl (cI, 60, .inl r1)), (aA, .inl (cI, 60, .inl o1))] ++ w_7) := hD
      refine wt_i hr9 ?_
      refine lv_istore (lv' := [(18, .int (nI (n - mn))), (17, .int (nI (n - mn))), (20, .int (nI k)), (19, .int (nI mn)), (0, .ref b), (1, .ref o6), (2, .ref a1), (3, .ref a2), (4, .ref a3), (5, .ref a4), (6, .ref a5), (7, .ref a6), (8, .ref a7), (9, .ref a9), (10, .ref aA), (11, .ref a8), (12, .int (nI i)), (13, .int z9), (14, .int (nI act)), (15, .int x9), (16, .int (nI at9))]) hx hb dL_law_579 hl (by decide) rfl (fun ls hl => ?_)
      refine lv_goto (tgt := 738) hx hb dL_law_581 (by decide) ?_
      refine W.widen (k := cells + 1) (n := slots + 6) (by show cells + 0 ≤ cells + 1; omega) (by show slots + 0 ≤ slots + 6; omega) ?_
      exact t_so (tl9 := nI (n - mn)) (z9 := z9) E hi70 (by show cells + 3 ≤ room_1.cells; omega) (by show slots + 18 ≤ room_1.slots; omega) (fun H locs ls h9 => kk H locs ls h9) (kOk_drop hok hmn2) hst hP hD hS (lv_sub hl [4, 5, 6, 7, 8, 9, 10, 11, 12, 13, 14, 15, 16, 17, 1, 0] rfl) 
    · skip
      have c536 := knle (a := (n - mn)) (b := k) c536 (by omega) (by omega)
      refine lv_aload_n hx hb dL_law_539 rfl (lv_at hl 4 rfl) ?_
      refine lv_iload hx hb dL_law_540 (lv_at hl 0 rfl) ?_
      refine lv_aload_n hx hb dL_law_542 rfl (lv_at hl 4 rfl) ?_
      refine lv_iload hx hb dL_law_543 (lv_at hl 0 rfl) ?_
      refine lv_iload hx hb dL_law_545 (lv_at hl 1 rfl) ?_
      refine lv_iadd hx hb dL_law_547 ?_
      refine wt_i (nI_add _ _) ?_
      refine va_iald (D := D) hx hb hK hP 0 0 rfl rfl (vp_in_nI (by omega) (by decide)) dL_law_548 ?_
      refine wt_i (by rw [nI_clamp (n := (k + mn)) (by omega)]) ?_
      refine va_iast (D := D) hx hb hK hP hD hS 0 0 rfl rfl (vp_in_nI (by omega) (by decide)) dL_law_549 (fun H locs hP hD hS => ?_)
      rw [nI_clamp (n := k) (by omega)] at hP hD
      have hP : va_P D vwCl ([(a1, .inl (cI, 60, .inl (upd v3 k (v3 (k + mn))))), (a2, .inl (cI, 60, .inl h3)), (a3, .inl (cI, 60, .inl ad)), (a4, .inl (cI, 12, .inl gg)), (a5, .inl (cI, 61, .inl c1)), (a6, .inl (cI, 61, .inl d1)), (a7, .inl (cI, 61, .inl e1)), (a8, .inl (cI, 6, .inl (kq (nI (n - mn)) (nI len) (nI ll) pen bf bl))), (a9, .inl (cI, 60, .inl r1)), (aA, .inl (cI, 60, .inl o1))] ++ w6) H := hP
      have hD : va_D (lwA s) ([(a1, .inl (cI, 60, .inl (upd v3 k (v3 (k + mn))))), (a2, .inl (cI, 60, .inl h3)), (a3, .inl (cI, 60, .inl ad)), (a4, .inl (cI, 12, .inl gg)), (a5, .inl (cI, 61, .inl c1)), (a6, .inl (cI, 61, .inl d1)), (a7, .inl (cI, 61, .inl e1)), (a8, .inl (cI, 6, .inl (kq (nI (n - mn)) (nI len) (nI ll) pen bf bl))), (a9, .inl (cI, 60, .inl r1)), (aA, .inl (cI, 60, .inl o1))] ++ w6) := hD
      refine lv_aload_n hx hb dL_law_550 rfl (lv_at hl 5 rfl) ?_
      refine lv_iload hx hb dL_law_551 (lv_at hl 0 rfl) ?_
      refine lv_aload_n hx hb dL_law_553 rfl (lv_at hl 5 rfl) ?_
      refine lv_iload hx hb dL_law_554 (lv_at hl 0 rfl) ?_
      refine lv_iload hx hb dL_law_556 (lv_at hl 1 rfl) ?_
      refine lv_iadd hx hb dL_law_558 ?_
      refine wt_i (nI_add _ _) ?_
      refine va_iald (D := D) hx hb hK hP 1 0 rfl rfl (vp_in_nI (by omega) (by decide)) dL_law_559 ?_
      refine wt_i (by rw [nI_clamp (n := (k + mn)) (by omega)]) ?_
      refine va_iast (D := D) hx hb hK hP hD hS 1 0 rfl rfl (vp_in_nI (by omega) (by decide)) dL_law_560 (fun H locs hP hD hS => ?_)
      rw [nI_clamp (n := k) (by omega)] at hP hD
      have hP : va_P D vwCl ([(a1, .inl (cI, 60, .inl (upd v3 k (v3 (k + mn))))), (a2, .inl (cI, 60, .inl (upd h3 k (h3 (k + mn))))), (a3, .inl (cI, 60, .inl ad)), (a4, .inl (cI, 12, .inl gg)), (a5, .inl (cI, 61, .inl c1)), (a6, .inl (cI, 61, .inl d1)), (a7, .inl (cI, 61, .inl e1)), (a8, .inl (cI, 6, .inl (kq (nI (n - mn)) (nI len) (nI ll) pen bf bl))), (a9, .inl (cI, 60, .inl r1)), (aA, .inl (cI, 60, .inl o1))] ++ w6) H := hP
      have hD : va_D (lwA s) ([(a1, .inl (cI, 60, .inl (upd v3 k (v3 (k + mn))))), (a2, .inl (cI, 60, .inl (upd h3 k (h3 (k + mn))))), (a3, .inl (cI, 60, .inl ad)), (a4, .inl (cI, 12, .inl gg)), (a5, .inl (cI, 61, .inl c1)), (a6, .inl (cI, 61, .inl d1)), (a7, .inl (cI, 61, .inl e1)), (a8, .inl (cI, 6, .inl (kq (nI (n - mn)) (nI len) (nI ll) pen bf bl))), (a9, .inl (cI, 60, .inl r1)), (aA, .inl (cI, 60, .inl o1))] ++ w6) := hD
      refine lv_iinc (v := nI (k + 1)) (lv' := [(20, .int (nI (k + 1))), (19, .int (nI mn)), (0, .ref b), (1, .ref o6), (2, .ref a1), (3, .ref a2), (4, .ref a3), (5, .ref a4), (6, .ref a5), (7, .ref a6), (8, .ref a7), (9, .ref a9), (10, .ref aA), (11, .ref a8), (12, .int (nI i)), (13, .int z9), (14, .int (nI act)), (15, .int x9), (16, .int (nI at9)), (17, .int (nI 0)), (18, .int (nI 0))]) hx hb dL_law_561 hl (k := 0) rfl (by exact nI_add _ 1) (by decide) rfl (fun ls hl => ?_)
      refine lv_goto (tgt := 530) hx hb dL_law_564 (by decide) ?_
      exact ih_3 _ (by omega) _ _ _ ⟨(k + 1), _, _, rfl, by omega, fun j q9 => by
            by_cases e9 : j = k
            · rw [e9, pk_us]; exact h2v3 _ (by omega)
            · rw [pk_un e9]; exact h1v3 j (by omega), fun j q9 => by rw [pk_un (by omega)]; exact h2v3 j (by omega), fun j q9 => by
            by_cases e9 : j = k
            · rw [e9, pk_us]; exact h2h3 _ (by omega)
            · rw [pk_un e9]; exact h1h3 j (by omega), fun j q9 => by rw [pk_un (by omega)]; exact h2h3 j (by omega), hP, hD, hS, lv_sub hl [0, 1, 2, 3, 4, 5, 6, 7, 8, 9, 10, 11, 12, 13, 14, 15, 16, 17, 18, 19, 20] rfl⟩
  refine lv_aload hx hb dL_law_477 (lv_at hl 11 rfl) ?_
  refine lv_iconst (v := nI 0) hx hb dL_law_479 (by decide) ?_
  refine va_iald (D := D) hx hb hK hP 7 0 rfl rfl (vp_in_nI (by omega) (by decide)) dL_law_480 ?_
  refine wt_i (by rw [nI_clamp (n := 0) (by omega)]) ?_
  refine wt_i (y := nI n) rfl ?_
  refine lv_bipush (v := nI 20) hx hb dL_law_481 (by decide) ?_
  refine lv_icmp_le (tgt := 495) hx hb dL_law_483 (by decide) (fun c483 => ?_) (fun c483 => ?_)
  · skip
    have c483 := kle (a := n) (b := 20) c483 (by omega) (by omega)
    refine lv_iconst (v := nI 3) hx hb dL_law_495 (by decide) ?_
    refine lv_aload hx hb dL_law_496 (lv_at hl 11 rfl) ?_
    refine lv_iconst (v := nI 0) hx hb dL_law_498 (by decide) ?_
    refine va_iald (D := D) hx hb hK hP 7 0 rfl rfl (vp_in_nI (by omega) (by decide)) dL_law_499 ?_
    refine wt_i (by rw [nI_clamp (n := 0) (by omega)]) ?_
    refine wt_i (y := nI n) rfl ?_
    refine lv_icmp_ge (tgt := 507) hx hb dL_law_500 (by decide) (fun c500 => ?_) (fun c500 => ?_)
    · skip
      have c500 := kle (a := n) (b := 3) c500 (by omega) (by omega)
      refine lv_aload hx hb dL_law_507 (lv_at hl 11 rfl) ?_
      refine lv_iconst (v := nI 0) hx hb dL_law_509 (by decide) ?_
      refine va_iald (D := D) hx hb hK hP 7 0 rfl rfl (vp_in_nI (by omega) (by decide)) dL_law_510 ?_
      refine wt_i (by rw [nI_clamp (n := 0) (by omega)]) ?_
      refine wt_i (y := nI n) rfl ?_
      refine lv_iconst (v := nI 1) hx hb dL_law_511 (by decide) ?_
      refine lv_iadd hx hb dL_law_512 ?_
      refine wt_i (nI_add _ _) ?_
      exact j_1 _ _ _ _ ⟨(n + 1), rfl, ⟨by omega, by omega⟩, hP, hD, hS, lv_sub hl [0, 1, 2, 3, 4, 5, 6, 7, 8, 9, 10, 11, 12, 13, 14, 15, 16, 17, 18] rfl⟩
    · skip
      have c500 := knle (a := n) (b := 3) c500 (by omega) (by omega)
      refine lv_iconst (v := nI 3) hx hb dL_law_503 (by decide) ?_
      refine lv_goto (tgt := 513) hx hb dL_law_504 (by decide) ?_
      exact j_1 _ _ _ _ ⟨3, rfl, ⟨by omega, by omega⟩, hP, hD, hS, lv_sub hl [0, 1, 2, 3, 4, 5, 6, 7, 8, 9, 10, 11, 12, 13, 14, 15, 16, 17, 18] rfl⟩
  · skip
    have c483 := knle (a := n) (b := 20) c483 (by omega) (by omega)
    refine lv_aload hx hb dL_law_486 (lv_at hl 11 rfl) ?_
    refine lv_iconst (v := nI 0) hx hb dL_law_488 (by decide) ?_
    refine va_iald (D := D) hx hb hK hP 7 0 rfl rfl (vp_in_nI (by omega) (by decide)) dL_law_489 ?_
    refine wt_i (by rw [nI_clamp (n := 0) (by omega)]) ?_
    refine wt_i (y := nI n) rfl ?_
    refine lv_iconst (v := nI 1) hx hb dL_law_490 (by decide) ?_
    refine lv_iadd hx hb dL_law_491 ?_
    refine wt_i (nI_add _ _) ?_
    refine lv_goto (tgt := 513) hx hb dL_law_492 (by decide) ?_
    exact j_1 _ _ _ _ ⟨(n + 1), rfl, ⟨by omega, by omega⟩, hP, hD, hS, lv_sub hl [0, 1, 2, 3, 4, 5, 6, 7, 8, 9, 10, 11, 12, 13, 14, 15, 16, 17, 18] rfl⟩

set_option maxHeartbeats 4000000 in
set_option maxRecDepth 100000 in
theorem t_seas {p : Program} {l : Launch} {e : Env} {s : State} {m : MethodId} {below : List Frame} {meth : Method} {c : Code} {Q : State → Prop} {D : va_G} {cI cZ cJ : ClassId} {b L i cells slots : Nat} {xs : Nat → Int32} {H : Heap} {locs : List Loc} {ls : Array Slot} {v hf : Nat → Int32} {n len ll : Nat} {pen bf bl : Int32} {o6 a1 a2 a3 a4 a5 a6 a7 a8 a9 aA : Nat} {ad gg c1 d1 e1 r1 o1 : Nat → Int32} {w6 : va_W} {z9 x9 : Int32} {act at9 : Nat} (E : lwE p l s m c D cI cZ cJ b L xs) (hi70 : i < 70) (hrc : cells + 3 ≤ room_1.cells) (hrs : slots + 18 ≤ room_1.slots) (kk : ∀ (H : Heap) (locs : List Loc) (ls : Array Slot), lwI s D cI cZ cJ b (i + 1) H locs ls → W p l e room_1 s m #[Value.ref b] below meth c H locs (cells + 3) (slots + 18) Q (F0 m 97 ls [])) (hok : kOk v hf n len ll pen bf bl) (hst : kSt cI cZ v hf n len ll pen bf bl 0 o6 w6) (hP : va_P D vwCl ([(a1, .inl (cI, 60, .inl v)), (a2, .inl (cI, 60, .inl hf)), (a3, .inl (cI, 60, .inl ad)), (a4, .inl (cI, 12, .inl gg)), (a5, .inl (cI, 61, .inl c1)), (a6, .inl (cI, 61, .inl d1)), (a7, .inl (cI, 61, .inl e1)), (a8, .inl (cI, 6, .inl (kq (nI n) (nI len) (nI ll) pen bf bl))), (a9, .inl (cI, 60, .inl r1)), (aA, .inl (cI, 60, .inl o1))] ++ w6) H) (hD : va_D (lwA s) ([(a1, .inl (cI, 60, .inl v)), (a2, .inl (cI, 60, .inl hf)), (a3, .inl (cI, 60, .inl ad)), (a4, .inl (cI, 12, .inl gg)), (a5, .inl (cI, 61, .inl c1)), (a6, .inl (cI, 61, .inl d1)), (a7, .inl (cI, 61, .inl e1)), (a8, .inl (cI, 6, .inl (kq (nI n) (nI len) (nI ll) pen bf bl))), (a9, .inl (cI, 60, .inl r1)), (aA, .inl (cI, 60, .inl o1))] ++ w6)) (hS : va_S (lwA s) s.heap H locs) (hl : lv_has ls 22 [(0, .ref b), (1, .ref o6), (2, .ref a1), (3, .ref a2), (4, .ref a3), (5, .ref a4), (6, .ref a5), (7, .ref a6), (8, .ref a7), (9, .ref a9), (10, .ref aA), (11, .ref a8), (12, .int (nI i)), (13, .int z9), (14, .int (nI act)), (15, .int x9), (16, .int (nI at9)), (17, .int (nI 0)), (18, .int (nI 0))]) : W p l e room_1 s m #[Value.ref b] below meth c H locs cells slots Q (F0 m 591 ls []) := by
  obtain ⟨hx, hb, hml, hown, hts, hX, hbl, hK, hE, hlf, hL⟩ := id E
  obtain ⟨hn, hbit, hln1, hln2, hll, hlm, hvb, hpb, hbb, hfb⟩ := id hok
  have hA : ∀ q : Nat, s.heap.size ≤ q → lwA s q := fun _ h => h
  have hbA : ¬ lwA s b := Nat.not_le.mpr hbl
  refine lv_aload hx hb dL_law_591 (lv_at hl 11 rfl) ?_
  refine lv_iconst (v := nI 1) hx hb dL_law_593 (by decide) ?_
  refine va_iald (D := D) hx hb hK hP 7 0 rfl rfl (vp_in_nI (by omega) (by decide)) dL_law_594 ?_
  refine wt_i (by rw [nI_clamp (n := 1) (by omega)]) ?_
  refine wt_i (y := nI len) rfl ?_
  refine lv_istore (lv' := [(17, .int (nI len)), (0, .ref b), (1, .ref o6), (2, .ref a1), (3, .ref a2), (4, .ref a3), (5, .ref a4), (6, .ref a5), (7, .ref a6), (8, .ref a7), (9, .ref a9), (10, .ref aA), (11, .ref a8), (12, .int (nI i)), (13, .int z9), (14, .int (nI act)), (15, .int x9), (16, .int (nI at9)), (18, .int (nI 0))]) hx hb dL_law_595 hl (by decide) rfl (fun ls hl => ?_)
  refine lv_aload hx hb dL_law_597 (lv_at hl 12 rfl) ?_
  refine lv_iconst (v := nI 1) hx hb dL_law_599 (by decide) ?_
  refine lv_iconst (v := nI 1) hx hb dL_law_600 (by decide) ?_
  refine lv_iload hx hb dL_law_601 (lv_at hl 14 rfl) ?_
  refine lv_iconst (v := nI 5) hx hb dL_law_603 (by decide) ?_
  refine lv_ishr hx hb dL_law_604 ?_
  refine lv_bipush (v := nI 12) hx hb dL_law_605 (by decide) ?_
  refine klhi (X := [(a1, .inl (cI, 60, .inl v)), (a2, .inl (cI, 60, .inl hf)), (a3, .inl (cI, 60, .inl ad)), (a4, .inl (cI, 12, .inl gg)), (a5, .inl (cI, 61, .inl c1)), (a6, .inl (cI, 61, .inl d1)), (a7, .inl (cI, 61, .inl e1)), (a8, .inl (cI, 6, .inl (kq (nI n) (nI len) (nI ll) pen bf bl))), (a9, .inl (cI, 60, .inl r1)), (aA, .inl (cI, 60, .inl o1))]) (pl := w6) (wr := [(a1, .inl (cI, 60, .inl v)), (a2, .inl (cI, 60, .inl hf)), (a3, .inl (cI, 60, .inl ad)), (a4, .inl (cI, 12, .inl gg)), (a5, .inl (cI, 61, .inl c1)), (a6, .inl (cI, 61, .inl d1)), (a7, .inl (cI, 61, .inl e1)), (a8, .inl (cI, 6, .inl (kq (nI n) (nI len) (nI ll) pen bf bl))), (a9, .inl (cI, 60, .inl r1)), (aA, .inl (cI, 60, .inl o1))]) (pre := []) (va_runS (As := [.int (z9 >>> (nI 5 &&& 31)), .int (nI 12)]) (rest := [.int (nI 1), .int (nI 1), .ref a8]) ⟨hx, hb, hml, hown, hts⟩ (c_L_low l D cI cZ cJ H.size (z9 >>> (nI 5 &&& 31)) 12 (by first | assumption | omega) (by first | assumption | omega)) (va_cwS 2 hts gL_law_L_low rfl rfl rfl (by decide +kernel) ⟨Nat.le_of_ble_eq_true rfl, Nat.le_of_ble_eq_true rfl⟩) (kpreH hK hP hD [] (by decide +kernel) rfl) rfl rfl hl.1 rfl (lv_room (Nat.le_of_ble_eq_true rfl)) dL_law_607 ⟨by show cells + 0 ≤ room_1.cells; omega, by show slots + 0 ≤ room_1.slots; omega⟩) hP hD hS hA [] [0, 1, 2, 3, 4, 5, 6, 7, 8, 9] rfl rfl (by decide +kernel) (by decide +kernel) (fun r_1 ks1 H locs hw hP hD hS => ?_)
  have hP : va_P D vwCl ([(a1, .inl (cI, 60, .inl v)), (a2, .inl (cI, 60, .inl hf)), (a3, .inl (cI, 60, .inl ad)), (a4, .inl (cI, 12, .inl gg)), (a5, .inl (cI, 61, .inl c1)), (a6, .inl (cI, 61, .inl d1)), (a7, .inl (cI, 61, .inl e1)), (a8, .inl (cI, 6, .inl (kq (nI n) (nI len) (nI ll) pen bf bl))), (a9, .inl (cI, 60, .inl r1)), (aA, .inl (cI, 60, .inl o1))] ++ w6) H := hP
  have hD : va_D (lwA s) ([(a1, .inl (cI, 60, .inl v)), (a2, .inl (cI, 60, .inl hf)), (a3, .inl (cI, 60, .inl ad)), (a4, .inl (cI, 12, .inl gg)), (a5, .inl (cI, 61, .inl c1)), (a6, .inl (cI, 61, .inl d1)), (a7, .inl (cI, 61, .inl e1)), (a8, .inl (cI, 6, .inl (kq (nI n) (nI len) (nI ll) pen bf bl))), (a9, .inl (cI, 60, .inl r1)), (aA, .inl (cI, 60, .inl o1))] ++ w6) := hD
  have hw : r_1 = nI ks1 ∧ (ks1 = klow (z9 >>> (nI 5 &&& 31)) 12 ∧ ks1 < 12) := hw
  obtain ⟨hr9, hs1⟩ := hw
  refine wt_i hr9 ?_
  obtain ⟨hs1a, hs1b⟩ := hs1
  refine lv_iadd hx hb dL_law_610 ?_
  refine wt_i (nI_add _ _) ?_
  refine va_iast (D := D) hx hb hK hP hD hS 7 0 rfl rfl (vp_in_nI (by omega) (by decide)) dL_law_611 (fun H locs hP hD hS => ?_)
  rw [nI_clamp (n := 1) (by omega)] at hP hD
  rw [show upd (kq (nI n) (nI len) (nI ll) pen bf bl) 1 (nI (1 + ks1)) = kq (nI n) (nI (1 + ks1)) (nI ll) pen bf bl from kq_u1 _ _ _ _ _ _ _] at hP hD
  have hP : va_P D vwCl ([(a1, .inl (cI, 60, .inl v)), (a2, .inl (cI, 60, .inl hf)), (a3, .inl (cI, 60, .inl ad)), (a4, .inl (cI, 12, .inl gg)), (a5, .inl (cI, 61, .inl c1)), (a6, .inl (cI, 61, .inl d1)), (a7, .inl (cI, 61, .inl e1)), (a8, .inl (cI, 6, .inl (kq (nI n) (nI (1 + ks1)) (nI ll) pen bf bl))), (a9, .inl (cI, 60, .inl r1)), (aA, .inl (cI, 60, .inl o1))] ++ w6) H := hP
  have hD : va_D (lwA s) ([(a1, .inl (cI, 60, .inl v)), (a2, .inl (cI, 60, .inl hf)), (a3, .inl (cI, 60, .inl ad)), (a4, .inl (cI, 12, .inl gg)), (a5, .inl (cI, 61, .inl c1)), (a6, .inl (cI, 61, .inl d1)), (a7, .inl (cI, 61, .inl e1)), (a8, .inl (cI, 6, .inl (kq (nI n) (nI (1 + ks1)) (nI ll) pen bf bl))), (a9, .inl (cI, 60, .inl r1)), (aA, .inl (cI, 60, .inl o1))] ++ w6) := hD
  refine lv_aload_n hx hb dL_law_612 rfl (lv_at hl 2 rfl) ?_
  refine lv_aload hx hb dL_law_613 (lv_at hl 12 rfl) ?_
  refine lv_iconst (v := nI 1) hx hb dL_law_615 (by decide) ?_
  refine va_iald (D := D) hx hb hK hP 7 0 rfl rfl (vp_in_nI (by omega) (by decide)) dL_law_616 ?_
  refine wt_i (by rw [nI_clamp (n := 1) (by omega)]) ?_
  refine wt_i (y := nI (1 + ks1)) rfl ?_
  refine klci (X := [(a1, .inl (cI, 60, .inl v)), (a2, .inl (cI, 60, .inl hf)), (a3, .inl (cI, 60, .inl ad)), (a4, .inl (cI, 12, .inl gg)), (a5, .inl (cI, 61, .inl c1)), (a6, .inl (cI, 61, .inl d1)), (a7, .inl (cI, 61, .inl e1)), (a8, .inl (cI, 6, .inl (kq (nI n) (nI (1 + ks1)) (nI ll) pen bf bl))), (a9, .inl (cI, 60, .inl r1)), (aA, .inl (cI, 60, .inl o1))]) (pl := w6) (va_runV (As := [.int (nI (1 + ks1))]) (rest := []) ⟨hx, hb, hml, hown, hts⟩ (c_X6_setSeason l D cI cZ cJ H.size v hf n len ll pen bf bl o6 w6 (1 + ks1) hok hst (by omega) (by omega)) (cwV 1 hts gL_law_X6_setSeason rfl rfl rfl (by decide +kernel) ⟨Nat.le_of_ble_eq_true rfl, Nat.le_of_ble_eq_true rfl⟩) (kpreL hK hP hD rfl (kSt_recv hst)) rfl rfl hl.1 rfl (lv_room (Nat.le_of_ble_eq_true rfl)) dL_law_617 ⟨by show cells + 0 ≤ room_1.cells; omega, by show slots + 0 ≤ room_1.slots; omega⟩) hP hD hS hA (fun r_2 w_3 H locs hw hP hD hS => ?_)
  obtain ⟨hr9, hst⟩ := hw
  have hP : va_P D vwCl ([(a1, .inl (cI, 60, .inl v)), (a2, .inl (cI, 60, .inl hf)), (a3, .inl (cI, 60, .inl ad)), (a4, .inl (cI, 12, .inl gg)), (a5, .inl (cI, 61, .inl c1)), (a6, .inl (cI, 61, .inl d1)), (a7, .inl (cI, 61, .inl e1)), (a8, .inl (cI, 6, .inl (kq (nI n) (nI (1 + ks1)) (nI ll) pen bf bl))), (a9, .inl (cI, 60, .inl r1)), (aA, .inl (cI, 60, .inl o1))] ++ w_3) H := hP
  have hD : va_D (lwA s) ([(a1, .inl (cI, 60, .inl v)), (a2, .inl (cI, 60, .inl hf)), (a3, .inl (cI, 60, .inl ad)), (a4, .inl (cI, 12, .inl gg)), (a5, .inl (cI, 61, .inl c1)), (a6, .inl (cI, 61, .inl d1)), (a7, .inl (cI, 61, .inl e1)), (a8, .inl (cI, 6, .inl (kq (nI n) (nI (1 + ks1)) (nI ll) pen bf bl))), (a9, .inl (cI, 60, .inl r1)), (aA, .inl (cI, 60, .inl o1))] ++ w_3) := hD
  refine wt_i hr9 ?_
  refine lv_istore (lv' := [(18, .int (nI len)), (17, .int (nI len)), (0, .ref b), (1, .ref o6), (2, .ref a1), (3, .ref a2), (4, .ref a3), (5, .ref a4), (6, .ref a5), (7, .ref a6), (8, .ref a7), (9, .ref a9), (10, .ref aA), (11, .ref a8), (12, .int (nI i)), (13, .int z9), (14, .int (nI act)), (15, .int x9), (16, .int (nI at9))]) hx hb dL_law_620 hl (by decide) rfl (fun ls hl => ?_)
  refine lv_goto (tgt := 738) hx hb dL_law_622 (by decide) ?_
  refine W.widen (k := cells + 1) (n := slots + 6) (by show cells + 0 ≤ cells + 1; omega) (by show slots + 0 ≤ slots + 6; omega) ?_
  exact t_so (tl9 := nI len) (z9 := z9) E hi70 (by show cells + 3 ≤ room_1.cells; omega) (by show slots + 18 ≤ room_1.slots; omega) (fun H locs ls h9 => kk H locs ls h9) (kOk_season hok (by omega) (by omega)) hst hP hD hS (lv_sub hl [2, 3, 4, 5, 6, 7, 8, 9, 10, 11, 12, 13, 14, 15, 1, 0] rfl) 

set_option maxHeartbeats 4000000 in
set_option maxRecDepth 100000 in
theorem t_cuts {p : Program} {l : Launch} {e : Env} {s : State} {m : MethodId} {below : List Frame} {meth : Method} {c : Code} {Q : State → Prop} {D : va_G} {cI cZ cJ : ClassId} {b L i cells slots : Nat} {xs : Nat → Int32} {H : Heap} {locs : List Loc} {ls : Array Slot} {v hf : Nat → Int32} {n len ll : Nat} {pen bf bl : Int32} {o6 a1 a2 a3 a4 a5 a6 a7 a8 a9 aA : Nat} {ad gg c1 d1 e1 r1 o1 : Nat → Int32} {w6 : va_W} {z9 x9 : Int32} {act at9 : Nat} (E : lwE p l s m c D cI cZ cJ b L xs) (hi70 : i < 70) (hrc : cells + 3 ≤ room_1.cells) (hrs : slots + 18 ≤ room_1.slots) (kk : ∀ (H : Heap) (locs : List Loc) (ls : Array Slot), lwI s D cI cZ cJ b (i + 1) H locs ls → W p l e room_1 s m #[Value.ref b] below meth c H locs (cells + 3) (slots + 18) Q (F0 m 97 ls [])) (hok : kOk v hf n len ll pen bf bl) (hst : kSt cI cZ v hf n len ll pen bf bl 0 o6 w6) (hP : va_P D vwCl ([(a1, .inl (cI, 60, .inl v)), (a2, .inl (cI, 60, .inl hf)), (a3, .inl (cI, 60, .inl ad)), (a4, .inl (cI, 12, .inl gg)), (a5, .inl (cI, 61, .inl c1)), (a6, .inl (cI, 61, .inl d1)), (a7, .inl (cI, 61, .inl e1)), (a8, .inl (cI, 6, .inl (kq (nI n) (nI len) (nI ll) pen bf bl))), (a9, .inl (cI, 60, .inl r1)), (aA, .inl (cI, 60, .inl o1))] ++ w6) H) (hD : va_D (lwA s) ([(a1, .inl (cI, 60, .inl v)), (a2, .inl (cI, 60, .inl hf)), (a3, .inl (cI, 60, .inl ad)), (a4, .inl (cI, 12, .inl gg)), (a5, .inl (cI, 61, .inl c1)), (a6, .inl (cI, 61, .inl d1)), (a7, .inl (cI, 61, .inl e1)), (a8, .inl (cI, 6, .inl (kq (nI n) (nI len) (nI ll) pen bf bl))), (a9, .inl (cI, 60, .inl r1)), (aA, .inl (cI, 60, .inl o1))] ++ w6)) (hS : va_S (lwA s) s.heap H locs) (hl : lv_has ls 22 [(0, .ref b), (1, .ref o6), (2, .ref a1), (3, .ref a2), (4, .ref a3), (5, .ref a4), (6, .ref a5), (7, .ref a6), (8, .ref a7), (9, .ref a9), (10, .ref aA), (11, .ref a8), (12, .int (nI i)), (13, .int z9), (14, .int (nI act)), (15, .int x9), (16, .int (nI at9)), (17, .int (nI 0)), (18, .int (nI 0))]) : W p l e room_1 s m #[Value.ref b] below meth c H locs cells slots Q (F0 m 632 ls []) := by
  obtain ⟨hx, hb, hml, hown, hts, hX, hbl, hK, hE, hlf, hL⟩ := id E
  obtain ⟨hn, hbit, hln1, hln2, hll, hlm, hvb, hpb, hbb, hfb⟩ := id hok
  have hA : ∀ q : Nat, s.heap.size ≤ q → lwA s q := fun _ h => h
  have hbA : ¬ lwA s b := Nat.not_le.mpr hbl
  refine lv_aload hx hb dL_law_632 (lv_at hl 11 rfl) ?_
  refine lv_iconst (v := nI 2) hx hb dL_law_634 (by decide) ?_
  refine lv_iconst (v := nI 1) hx hb dL_law_635 (by decide) ?_
  refine lv_iload hx hb dL_law_636 (lv_at hl 13 rfl) ?_
  refine lv_iconst (v := nI 5) hx hb dL_law_638 (by decide) ?_
  refine lv_ishr hx hb dL_law_639 ?_
  refine lv_bipush (v := nI 10) hx hb dL_law_640 (by decide) ?_
  refine klhi (X := [(a1, .inl (cI, 60, .inl v)), (a2, .inl (cI, 60, .inl hf)), (a3, .inl (cI, 60, .inl ad)), (a4, .inl (cI, 12, .inl gg)), (a5, .inl (cI, 61, .inl c1)), (a6, .inl (cI, 61, .inl d1)), (a7, .inl (cI, 61, .inl e1)), (a8, .inl (cI, 6, .inl (kq (nI n) (nI len) (nI ll) pen bf bl))), (a9, .inl (cI, 60, .inl r1)), (aA, .inl (cI, 60, .inl o1))]) (pl := w6) (wr := [(a1, .inl (cI, 60, .inl v)), (a2, .inl (cI, 60, .inl hf)), (a3, .inl (cI, 60, .inl ad)), (a4, .inl (cI, 12, .inl gg)), (a5, .inl (cI, 61, .inl c1)), (a6, .inl (cI, 61, .inl d1)), (a7, .inl (cI, 61, .inl e1)), (a8, .inl (cI, 6, .inl (kq (nI n) (nI len) (nI ll) pen bf bl))), (a9, .inl (cI, 60, .inl r1)), (aA, .inl (cI, 60, .inl o1))]) (pre := []) (va_runS (As := [.int (z9 >>> (nI 5 &&& 31)), .int (nI 10)]) (rest := [.int (nI 1), .int (nI 2), .ref a8]) ⟨hx, hb, hml, hown, hts⟩ (c_L_low l D cI cZ cJ H.size (z9 >>> (nI 5 &&& 31)) 10 (by first | assumption | omega) (by first | assumption | omega)) (va_cwS 2 hts gL_law_L_low rfl rfl rfl (by decide +kernel) ⟨Nat.le_of_ble_eq_true rfl, Nat.le_of_ble_eq_true rfl⟩) (kpreH hK hP hD [] (by decide +kernel) rfl) rfl rfl hl.1 rfl (lv_room (Nat.le_of_ble_eq_true rfl)) dL_law_642 ⟨by show cells + 0 ≤ room_1.cells; omega, by show slots + 0 ≤ room_1.slots; omega⟩) hP hD hS hA [] [0, 1, 2, 3, 4, 5, 6, 7, 8, 9] rfl rfl (by decide +kernel) (by decide +kernel) (fun r_1 kc1 H locs hw hP hD hS => ?_)
  have hP : va_P D vwCl ([(a1, .inl (cI, 60, .inl v)), (a2, .inl (cI, 60, .inl hf)), (a3, .inl (cI, 60, .inl ad)), (a4, .inl (cI, 12, .inl gg)), (a5, .inl (cI, 61, .inl c1)), (a6, .inl (cI, 61, .inl d1)), (a7, .inl (cI, 61, .inl e1)), (a8, .inl (cI, 6, .inl (kq (nI n) (nI len) (nI ll) pen bf bl))), (a9, .inl (cI, 60, .inl r1)), (aA, .inl (cI, 60, .inl o1))] ++ w6) H := hP
  have hD : va_D (lwA s) ([(a1, .inl (cI, 60, .inl v)), (a2, .inl (cI, 60, .inl hf)), (a3, .inl (cI, 60, .inl ad)), (a4, .inl (cI, 12, .inl gg)), (a5, .inl (cI, 61, .inl c1)), (a6, .inl (cI, 61, .inl d1)), (a7, .inl (cI, 61, .inl e1)), (a8, .inl (cI, 6, .inl (kq (nI n) (nI len) (nI ll) pen bf bl))), (a9, .inl (cI, 60, .inl r1)), (aA, .inl (cI, 60, .inl o1))] ++ w6) := hD
  have hw : r_1 = nI kc1 ∧ (kc1 = klow (z9 >>> (nI 5 &&& 31)) 10 ∧ kc1 < 10) := hw
  obtain ⟨hr9, hc1⟩ := hw
  refine wt_i hr9 ?_
  obtain ⟨hc1a, hc1b⟩ := hc1
  refine lv_iadd hx hb dL_law_645 ?_
  refine wt_i (nI_add _ _) ?_
  refine va_iast (D := D) hx hb hK hP hD hS 7 0 rfl rfl (vp_in_nI (by omega) (by decide)) dL_law_646 (fun H locs hP hD hS => ?_)
  rw [nI_clamp (n := 2) (by omega)] at hP hD
  rw [show upd (kq (nI n) (nI len) (nI ll) pen bf bl) 2 (nI (1 + kc1)) = kq (nI n) (nI len) (nI (1 + kc1)) pen bf bl from kq_u2 _ _ _ _ _ _ _] at hP hD
  have hP : va_P D vwCl ([(a1, .inl (cI, 60, .inl v)), (a2, .inl (cI, 60, .inl hf)), (a3, .inl (cI, 60, .inl ad)), (a4, .inl (cI, 12, .inl gg)), (a5, .inl (cI, 61, .inl c1)), (a6, .inl (cI, 61, .inl d1)), (a7, .inl (cI, 61, .inl e1)), (a8, .inl (cI, 6, .inl (kq (nI n) (nI len) (nI (1 + kc1)) pen bf bl))), (a9, .inl (cI, 60, .inl r1)), (aA, .inl (cI, 60, .inl o1))] ++ w6) H := hP
  have hD : va_D (lwA s) ([(a1, .inl (cI, 60, .inl v)), (a2, .inl (cI, 60, .inl hf)), (a3, .inl (cI, 60, .inl ad)), (a4, .inl (cI, 12, .inl gg)), (a5, .inl (cI, 61, .inl c1)), (a6, .inl (cI, 61, .inl d1)), (a7, .inl (cI, 61, .inl e1)), (a8, .inl (cI, 6, .inl (kq (nI n) (nI len) (nI (1 + kc1)) pen bf bl))), (a9, .inl (cI, 60, .inl r1)), (aA, .inl (cI, 60, .inl o1))] ++ w6) := hD
  refine lv_aload hx hb dL_law_647 (lv_at hl 11 rfl) ?_
  refine lv_iconst (v := nI 3) hx hb dL_law_649 (by decide) ?_
  refine lv_iload hx hb dL_law_650 (lv_at hl 13 rfl) ?_
  refine lv_bipush (v := nI 9) hx hb dL_law_652 (by decide) ?_
  refine lv_ishr hx hb dL_law_654 ?_
  refine wl_join2 (pc2 := 675) (fun (stk : List Value) (H : Heap) (locs : List Loc) (ls : Array Slot) => ∃ (bd : Nat), stk = [.int (nI bd), .int (z9 >>> (nI 9 &&& 31)), .int (nI 3), .ref a8] ∧ (1 ≤ bd ∧ bd ≤ 3000) ∧ va_P D vwCl ([(a1, .inl (cI, 60, .inl v)), (a2, .inl (cI, 60, .inl hf)), (a3, .inl (cI, 60, .inl ad)), (a4, .inl (cI, 12, .inl gg)), (a5, .inl (cI, 61, .inl c1)), (a6, .inl (cI, 61, .inl d1)), (a7, .inl (cI, 61, .inl e1)), (a8, .inl (cI, 6, .inl (kq (nI n) (nI len) (nI (1 + kc1)) pen bf bl))), (a9, .inl (cI, 60, .inl r1)), (aA, .inl (cI, 60, .inl o1))] ++ w6) H ∧ va_D (lwA s) ([(a1, .inl (cI, 60, .inl v)), (a2, .inl (cI, 60, .inl hf)), (a3, .inl (cI, 60, .inl ad)), (a4, .inl (cI, 12, .inl gg)), (a5, .inl (cI, 61, .inl c1)), (a6, .inl (cI, 61, .inl d1)), (a7, .inl (cI, 61, .inl e1)), (a8, .inl (cI, 6, .inl (kq (nI n) (nI len) (nI (1 + kc1)) pen bf bl))), (a9, .inl (cI, 60, .inl r1)), (aA, .inl (cI, 60, .inl o1))] ++ w6) ∧ va_S (lwA s) s.heap H locs ∧ lv_has ls 22 [(0, .ref b), (1, .ref o6), (2, .ref a1), (3, .ref a2), (4, .ref a3), (5, .ref a4), (6, .ref a5), (7, .ref a6), (8, .ref a7), (9, .ref a9), (10, .ref aA), (11, .ref a8), (12, .int (nI i)), (13, .int z9), (14, .int (nI act)), (15, .int x9), (16, .int (nI at9)), (17, .int (nI 0)), (18, .int (nI 0))]) ?_ (fun j_2 => ?_)
  · skip
    rintro stk H locs ls ⟨bd, rfl, hbd, hP, hD, hS, hl⟩
    refine klhi (X := [(a1, .inl (cI, 60, .inl v)), (a2, .inl (cI, 60, .inl hf)), (a3, .inl (cI, 60, .inl ad)), (a4, .inl (cI, 12, .inl gg)), (a5, .inl (cI, 61, .inl c1)), (a6, .inl (cI, 61, .inl d1)), (a7, .inl (cI, 61, .inl e1)), (a8, .inl (cI, 6, .inl (kq (nI n) (nI len) (nI (1 + kc1)) pen bf bl))), (a9, .inl (cI, 60, .inl r1)), (aA, .inl (cI, 60, .inl o1))]) (pl := w6) (wr := [(a1, .inl (cI, 60, .inl v)), (a2, .inl (cI, 60, .inl hf)), (a3, .inl (cI, 60, .inl ad)), (a4, .inl (cI, 12, .inl gg)), (a5, .inl (cI, 61, .inl c1)), (a6, .inl (cI, 61, .inl d1)), (a7, .inl (cI, 61, .inl e1)), (a8, .inl (cI, 6, .inl (kq (nI n) (nI len) (nI (1 + kc1)) pen bf bl))), (a9, .inl (cI, 60, .inl r1)), (aA, .inl (cI, 60, .inl o1))]) (pre := []) (va_runS (As := [.int (z9 >>> (nI 9 &&& 31)), .int (nI bd)]) (rest := [.int (nI 3), .ref a8]) ⟨hx, hb, hml, hown, hts⟩ (c_L_low l D cI cZ cJ H.size (z9 >>> (nI 9 &&& 31)) bd (by first | assumption | omega) (by first | assumption | omega)) (va_cwS 2 hts gL_law_L_low rfl rfl rfl (by decide +kernel) ⟨Nat.le_of_ble_eq_true rfl, Nat.le_of_ble_eq_true rfl⟩) (kpreH hK hP hD [] (by decide +kernel) rfl) rfl rfl hl.1 rfl (lv_room (Nat.le_of_ble_eq_true rfl)) dL_law_675 ⟨by show cells + 0 ≤ room_1.cells; omega, by show slots + 0 ≤ room_1.slots; omega⟩) hP hD hS hA [] [0, 1, 2, 3, 4, 5, 6, 7, 8, 9] rfl rfl (by decide +kernel) (by decide +kernel) (fun r_3 kc3 H locs hw hP hD hS => ?_)
    have hP : va_P D vwCl ([(a1, .inl (cI, 60, .inl v)), (a2, .inl (cI, 60, .inl hf)), (a3, .inl (cI, 60, .inl ad)), (a4, .inl (cI, 12, .inl gg)), (a5, .inl (cI, 61, .inl c1)), (a6, .inl (cI, 61, .inl d1)), (a7, .inl (cI, 61, .inl e1)), (a8, .inl (cI, 6, .inl (kq (nI n) (nI len) (nI (1 + kc1)) pen bf bl))), (a9, .inl (cI, 60, .inl r1)), (aA, .inl (cI, 60, .inl o1))] ++ w6) H := hP
    have hD : va_D (lwA s) ([(a1, .inl (cI, 60, .inl v)), (a2, .inl (cI, 60, .inl hf)), (a3, .inl (cI, 60, .inl ad)), (a4, .inl (cI, 12, .inl gg)), (a5, .inl (cI, 61, .inl c1)), (a6, .inl (cI, 61, .inl d1)), (a7, .inl (cI, 61, .inl e1)), (a8, .inl (cI, 6, .inl (kq (nI n) (nI len) (nI (1 + kc1)) pen bf bl))), (a9, .inl (cI, 60, .inl r1)), (aA, .inl (cI, 60, .inl o1))] ++ w6) := hD
    have hw : r_3 = nI kc3 ∧ (kc3 = klow (z9 >>> (nI 9 &&& 31)) bd ∧ kc3 < bd) := hw
    obtain ⟨hr9, hc3⟩ := hw
    refine wt_i hr9 ?_
    obtain ⟨hc3a, hc3b⟩ := hc3
    refine va_iast (D := D) hx hb hK hP hD hS 7 0 rfl rfl (vp_in_nI (by omega) (by decide)) dL_law_678 (fun H locs hP hD hS => ?_)
    rw [nI_clamp (n := 3) (by omega)] at hP hD
    rw [show upd (kq (nI n) (nI len) (nI (1 + kc1)) pen bf bl) 3 (nI kc3) = kq (nI n) (nI len) (nI (1 + kc1)) (nI kc3) bf bl from kq_u3 _ _ _ _ _ _ _] at hP hD
    have hP : va_P D vwCl ([(a1, .inl (cI, 60, .inl v)), (a2, .inl (cI, 60, .inl hf)), (a3, .inl (cI, 60, .inl ad)), (a4, .inl (cI, 12, .inl gg)), (a5, .inl (cI, 61, .inl c1)), (a6, .inl (cI, 61, .inl d1)), (a7, .inl (cI, 61, .inl e1)), (a8, .inl (cI, 6, .inl (kq (nI n) (nI len) (nI (1 + kc1)) (nI kc3) bf bl))), (a9, .inl (cI, 60, .inl r1)), (aA, .inl (cI, 60, .inl o1))] ++ w6) H := hP
    have hD : va_D (lwA s) ([(a1, .inl (cI, 60, .inl v)), (a2, .inl (cI, 60, .inl hf)), (a3, .inl (cI, 60, .inl ad)), (a4, .inl (cI, 12, .inl gg)), (a5, .inl (cI, 61, .inl c1)), (a6, .inl (cI, 61, .inl d1)), (a7, .inl (cI, 61, .inl e1)), (a8, .inl (cI, 6, .inl (kq (nI n) (nI len) (nI (1 + kc1)) (nI kc3) bf bl))), (a9, .inl (cI, 60, .inl r1)), (aA, .inl (cI, 60, .inl o1))] ++ w6) := hD
    refine lv_aload_n hx hb dL_law_679 rfl (lv_at hl 1 rfl) ?_
    refine lv_aload hx hb dL_law_680 (lv_at hl 11 rfl) ?_
    refine lv_iconst (v := nI 2) hx hb dL_law_682 (by decide) ?_
    refine va_iald (D := D) hx hb hK hP 7 0 rfl rfl (vp_in_nI (by omega) (by decide)) dL_law_683 ?_
    refine wt_i (by rw [nI_clamp (n := 2) (by omega)]) ?_
    refine wt_i (y := nI (1 + kc1)) rfl ?_
    refine lv_aload hx hb dL_law_684 (lv_at hl 11 rfl) ?_
    refine lv_iconst (v := nI 3) hx hb dL_law_686 (by decide) ?_
    refine va_iald (D := D) hx hb hK hP 7 0 rfl rfl (vp_in_nI (by omega) (by decide)) dL_law_687 ?_
    refine wt_i (by rw [nI_clamp (n := 3) (by omega)]) ?_
    refine wt_i (y := nI kc3) rfl ?_
    refine klcv (X := [(a1, .inl (cI, 60, .inl v)), (a2, .inl (cI, 60, .inl hf)), (a3, .inl (cI, 60, .inl ad)), (a4, .inl (cI, 12, .inl gg)), (a5, .inl (cI, 61, .inl c1)), (a6, .inl (cI, 61, .inl d1)), (a7, .inl (cI, 61, .inl e1)), (a8, .inl (cI, 6, .inl (kq (nI n) (nI len) (nI (1 + kc1)) (nI kc3) bf bl))), (a9, .inl (cI, 60, .inl r1)), (aA, .inl (cI, 60, .inl o1))]) (pl := w6) (va_runV (As := [.int (nI (1 + kc1)), .int (nI kc3)]) (rest := []) ⟨hx, hb, hml, hown, hts⟩ (c_X6_setCuts l D cI cZ cJ H.size v hf n len ll pen bf bl o6 w6 (1 + kc1) (nI kc3) hok hst (by omega) (by omega) (knge (Nat.zero_le _) (by omega)) (nI_le (by omega) (by omega))) (cwV 2 hts gL_law_X6_setCuts rfl rfl rfl (by decide +kernel) ⟨Nat.le_of_ble_eq_true rfl, Nat.le_of_ble_eq_true rfl⟩) (kpreL hK hP hD rfl (kSt_recv hst)) rfl rfl hl.1 rfl (lv_room (Nat.le_of_ble_eq_true rfl)) dL_law_688 ⟨by show cells + 0 ≤ room_1.cells; omega, by show slots + 0 ≤ room_1.slots; omega⟩) hP hD hS hA (fun w_5 H locs hw hP hD hS => ?_)
    have hst := hw
    have hP : va_P D vwCl ([(a1, .inl (cI, 60, .inl v)), (a2, .inl (cI, 60, .inl hf)), (a3, .inl (cI, 60, .inl ad)), (a4, .inl (cI, 12, .inl gg)), (a5, .inl (cI, 61, .inl c1)), (a6, .inl (cI, 61, .inl d1)), (a7, .inl (cI, 61, .inl e1)), (a8, .inl (cI, 6, .inl (kq (nI n) (nI len) (nI (1 + kc1)) (nI kc3) bf bl))), (a9, .inl (cI, 60, .inl r1)), (aA, .inl (cI, 60, .inl o1))] ++ w_5) H := hP
    have hD : va_D (lwA s) ([(a1, .inl (cI, 60, .inl v)), (a2, .inl (cI, 60, .inl hf)), (a3, .inl (cI, 60, .inl ad)), (a4, .inl (cI, 12, .inl gg)), (a5, .inl (cI, 61, .inl c1)), (a6, .inl (cI, 61, .inl d1)), (a7, .inl (cI, 61, .inl e1)), (a8, .inl (cI, 6, .inl (kq (nI n) (nI len) (nI (1 + kc1)) (nI kc3) bf bl))), (a9, .inl (cI, 60, .inl r1)), (aA, .inl (cI, 60, .inl o1))] ++ w_5) := hD
    refine lv_goto (tgt := 738) hx hb dL_law_691 (by decide) ?_
    refine W.widen (k := cells + 1) (n := slots + 6) (by show cells + 0 ≤ cells + 1; omega) (by show slots + 0 ≤ slots + 6; omega) ?_
    exact t_so (tl9 := nI 0) (z9 := z9) E hi70 (by show cells + 3 ≤ room_1.cells; omega) (by show slots + 18 ≤ room_1.slots; omega) (fun H locs ls h9 => kk H locs ls h9) (kOk_cuts hok (by omega) (by omega) (kin_of (knge (Nat.zero_le _) (by omega)) (nI_le (by omega) (by omega)))) hst hP hD hS (lv_sub hl [0, 1, 2, 3, 4, 5, 6, 7, 8, 9, 10, 11, 12, 13, 17, 18] rfl) 
  refine lv_iload hx hb dL_law_655 (lv_at hl 13 rfl) ?_
  refine lv_bipush (v := nI 18) hx hb dL_law_657 (by decide) ?_
  refine lv_ishr hx hb dL_law_659 ?_
  refine lv_iconst (v := nI 2) hx hb dL_law_660 (by decide) ?_
  refine klhi (X := [(a1, .inl (cI, 60, .inl v)), (a2, .inl (cI, 60, .inl hf)), (a3, .inl (cI, 60, .inl ad)), (a4, .inl (cI, 12, .inl gg)), (a5, .inl (cI, 61, .inl c1)), (a6, .inl (cI, 61, .inl d1)), (a7, .inl (cI, 61, .inl e1)), (a8, .inl (cI, 6, .inl (kq (nI n) (nI len) (nI (1 + kc1)) pen bf bl))), (a9, .inl (cI, 60, .inl r1)), (aA, .inl (cI, 60, .inl o1))]) (pl := w6) (wr := [(a1, .inl (cI, 60, .inl v)), (a2, .inl (cI, 60, .inl hf)), (a3, .inl (cI, 60, .inl ad)), (a4, .inl (cI, 12, .inl gg)), (a5, .inl (cI, 61, .inl c1)), (a6, .inl (cI, 61, .inl d1)), (a7, .inl (cI, 61, .inl e1)), (a8, .inl (cI, 6, .inl (kq (nI n) (nI len) (nI (1 + kc1)) pen bf bl))), (a9, .inl (cI, 60, .inl r1)), (aA, .inl (cI, 60, .inl o1))]) (pre := []) (va_runS (As := [.int (z9 >>> (nI 18 &&& 31)), .int (nI 2)]) (rest := [.int (z9 >>> (nI 9 &&& 31)), .int (nI 3), .ref a8]) ⟨hx, hb, hml, hown, hts⟩ (c_L_low l D cI cZ cJ H.size (z9 >>> (nI 18 &&& 31)) 2 (by first | assumption | omega) (by first | assumption | omega)) (va_cwS 2 hts gL_law_L_low rfl rfl rfl (by decide +kernel) ⟨Nat.le_of_ble_eq_true rfl, Nat.le_of_ble_eq_true rfl⟩) (kpreH hK hP hD [] (by decide +kernel) rfl) rfl rfl hl.1 rfl (lv_room (Nat.le_of_ble_eq_true rfl)) dL_law_661 ⟨by show cells + 0 ≤ room_1.cells; omega, by show slots + 0 ≤ room_1.slots; omega⟩) hP hD hS hA [] [0, 1, 2, 3, 4, 5, 6, 7, 8, 9] rfl rfl (by decide +kernel) (by decide +kernel) (fun r_7 kc2 H locs hw hP hD hS => ?_)
  have hP : va_P D vwCl ([(a1, .inl (cI, 60, .inl v)), (a2, .inl (cI, 60, .inl hf)), (a3, .inl (cI, 60, .inl ad)), (a4, .inl (cI, 12, .inl gg)), (a5, .inl (cI, 61, .inl c1)), (a6, .inl (cI, 61, .inl d1)), (a7, .inl (cI, 61, .inl e1)), (a8, .inl (cI, 6, .inl (kq (nI n) (nI len) (nI (1 + kc1)) pen bf bl))), (a9, .inl (cI, 60, .inl r1)), (aA, .inl (cI, 60, .inl o1))] ++ w6) H := hP
  have hD : va_D (lwA s) ([(a1, .inl (cI, 60, .inl v)), (a2, .inl (cI, 60, .inl hf)), (a3, .inl (cI, 60, .inl ad)), (a4, .inl (cI, 12, .inl gg)), (a5, .inl (cI, 61, .inl c1)), (a6, .inl (cI, 61, .inl d1)), (a7, .inl (cI, 61, .inl e1)), (a8, .inl (cI, 6, .inl (kq (nI n) (nI len) (nI (1 + kc1)) pen bf bl))), (a9, .inl (cI, 60, .inl r1)), (aA, .inl (cI, 60, .inl o1))] ++ w6) := hD
  have hw : r_7 = nI kc2 ∧ (kc2 = klow (z9 >>> (nI 18 &&& 31)) 2 ∧ kc2 < 2) := hw
  obtain ⟨hr9, hc2⟩ := hw
  refine wt_i hr9 ?_
  obtain ⟨hc2a, hc2b⟩ := hc2
  refine lv_if_ne (tgt := 672) hx hb dL_law_664 (by decide) (fun c664 => ?_) (fun c664 => ?_)
  · skip
    have c664 := kneq (a := kc2) (b := 0) c664 (by omega) (by omega)
    refine lv_sipush (v := nI 3000) hx hb dL_law_672 (by decide) ?_
    exact j_2 _ _ _ _ ⟨3000, rfl, ⟨by omega, by omega⟩, hP, hD, hS, lv_sub hl [0, 1, 2, 3, 4, 5, 6, 7, 8, 9, 10, 11, 12, 13, 14, 15, 16, 17, 18] rfl⟩
  · skip
    have c664 := keq (a := kc2) (b := 0) c664 (by omega) (by omega)
    refine lv_bipush (v := nI 20) hx hb dL_law_667 (by decide) ?_
    refine lv_goto (tgt := 675) hx hb dL_law_669 (by decide) ?_
    exact j_2 _ _ _ _ ⟨20, rfl, ⟨by omega, by omega⟩, hP, hD, hS, lv_sub hl [0, 1, 2, 3, 4, 5, 6, 7, 8, 9, 10, 11, 12, 13, 14, 15, 16, 17, 18] rfl⟩

set_option maxHeartbeats 4000000 in
set_option maxRecDepth 100000 in
theorem t_bnd {p : Program} {l : Launch} {e : Env} {s : State} {m : MethodId} {below : List Frame} {meth : Method} {c : Code} {Q : State → Prop} {D : va_G} {cI cZ cJ : ClassId} {b L i cells slots : Nat} {xs : Nat → Int32} {H : Heap} {locs : List Loc} {ls : Array Slot} {v hf : Nat → Int32} {n len ll : Nat} {pen bf bl : Int32} {o6 a1 a2 a3 a4 a5 a6 a7 a8 a9 aA : Nat} {ad gg c1 d1 e1 r1 o1 : Nat → Int32} {w6 : va_W} {z9 x9 : Int32} {act at9 : Nat} (E : lwE p l s m c D cI cZ cJ b L xs) (hi70 : i < 70) (hrc : cells + 3 ≤ room_1.cells) (hrs : slots + 18 ≤ room_1.slots) (kk : ∀ (H : Heap) (locs : List Loc) (ls : Array Slot), lwI s D cI cZ cJ b (i + 1) H locs ls → W p l e room_1 s m #[Value.ref b] below meth c H locs (cells + 3) (slots + 18) Q (F0 m 97 ls [])) (hok : kOk v hf n len ll pen bf bl) (hst : kSt cI cZ v hf n len ll pen bf bl 0 o6 w6) (hP : va_P D vwCl ([(a1, .inl (cI, 60, .inl v)), (a2, .inl (cI, 60, .inl hf)), (a3, .inl (cI, 60, .inl ad)), (a4, .inl (cI, 12, .inl gg)), (a5, .inl (cI, 61, .inl c1)), (a6, .inl (cI, 61, .inl d1)), (a7, .inl (cI, 61, .inl e1)), (a8, .inl (cI, 6, .inl (kq (nI n) (nI len) (nI ll) pen bf bl))), (a9, .inl (cI, 60, .inl r1)), (aA, .inl (cI, 60, .inl o1))] ++ w6) H) (hD : va_D (lwA s) ([(a1, .inl (cI, 60, .inl v)), (a2, .inl (cI, 60, .inl hf)), (a3, .inl (cI, 60, .inl ad)), (a4, .inl (cI, 12, .inl gg)), (a5, .inl (cI, 61, .inl c1)), (a6, .inl (cI, 61, .inl d1)), (a7, .inl (cI, 61, .inl e1)), (a8, .inl (cI, 6, .inl (kq (nI n) (nI len) (nI ll) pen bf bl))), (a9, .inl (cI, 60, .inl r1)), (aA, .inl (cI, 60, .inl o1))] ++ w6)) (hS : va_S (lwA s) s.heap H locs) (hl : lv_has ls 22 [(0, .ref b), (1, .ref o6), (2, .ref a1), (3, .ref a2), (4, .ref a3), (5, .ref a4), (6, .ref a5), (7, .ref a6), (8, .ref a7), (9, .ref a9), (10, .ref aA), (11, .ref a8), (12, .int (nI i)), (13, .int z9), (14, .int (nI act)), (15, .int x9), (16, .int (nI at9)), (17, .int (nI 0)), (18, .int (nI 0))]) : W p l e room_1 s m #[Value.ref b] below meth c H locs cells slots Q (F0 m 694 ls []) := by
  obtain ⟨hx, hb, hml, hown, hts, hX, hbl, hK, hE, hlf, hL⟩ := id E
  obtain ⟨hn, hbit, hln1, hln2, hll, hlm, hvb, hpb, hbb, hfb⟩ := id hok
  have hA : ∀ q : Nat, s.heap.size ≤ q → lwA s q := fun _ h => h
  have hbA : ¬ lwA s b := Nat.not_le.mpr hbl
  refine lv_aload hx hb dL_law_694 (lv_at hl 11 rfl) ?_
  refine lv_iconst (v := nI 4) hx hb dL_law_696 (by decide) ?_
  refine lv_bipush (v := nI 100) hx hb dL_law_697 (by decide) ?_
  refine lv_iload hx hb dL_law_699 (lv_at hl 13 rfl) ?_
  refine lv_iconst (v := nI 5) hx hb dL_law_701 (by decide) ?_
  refine lv_ishr hx hb dL_law_702 ?_
  refine lv_sipush (v := nI 1901) hx hb dL_law_703 (by decide) ?_
  refine klhi (X := [(a1, .inl (cI, 60, .inl v)), (a2, .inl (cI, 60, .inl hf)), (a3, .inl (cI, 60, .inl ad)), (a4, .inl (cI, 12, .inl gg)), (a5, .inl (cI, 61, .inl c1)), (a6, .inl (cI, 61, .inl d1)), (a7, .inl (cI, 61, .inl e1)), (a8, .inl (cI, 6, .inl (kq (nI n) (nI len) (nI ll) pen bf bl))), (a9, .inl (cI, 60, .inl r1)), (aA, .inl (cI, 60, .inl o1))]) (pl := w6) (wr := [(a1, .inl (cI, 60, .inl v)), (a2, .inl (cI, 60, .inl hf)), (a3, .inl (cI, 60, .inl ad)), (a4, .inl (cI, 12, .inl gg)), (a5, .inl (cI, 61, .inl c1)), (a6, .inl (cI, 61, .inl d1)), (a7, .inl (cI, 61, .inl e1)), (a8, .inl (cI, 6, .inl (kq (nI n) (nI len) (nI ll) pen bf bl))), (a9, .inl (cI, 60, .inl r1)), (aA, .inl (cI, 60, .inl o1))]) (pre := []) (va_runS (As := [.int (z9 >>> (nI 5 &&& 31)), .int (nI 1901)]) (rest := [.int (nI 100), .int (nI 4), .ref a8]) ⟨hx, hb, hml, hown, hts⟩ (c_L_low l D cI cZ cJ H.size (z9 >>> (nI 5 &&& 31)) 1901 (by first | assumption | omega) (by first | assumption | omega)) (va_cwS 2 hts gL_law_L_low rfl rfl rfl (by decide +kernel) ⟨Nat.le_of_ble_eq_true rfl, Nat.le_of_ble_eq_true rfl⟩) (kpreH hK hP hD [] (by decide +kernel) rfl) rfl rfl hl.1 rfl (lv_room (Nat.le_of_ble_eq_true rfl)) dL_law_706 ⟨by show cells + 0 ≤ room_1.cells; omega, by show slots + 0 ≤ room_1.slots; omega⟩) hP hD hS hA [] [0, 1, 2, 3, 4, 5, 6, 7, 8, 9] rfl rfl (by decide +kernel) (by decide +kernel) (fun r_1 kb1 H locs hw hP hD hS => ?_)
  have hP : va_P D vwCl ([(a1, .inl (cI, 60, .inl v)), (a2, .inl (cI, 60, .inl hf)), (a3, .inl (cI, 60, .inl ad)), (a4, .inl (cI, 12, .inl gg)), (a5, .inl (cI, 61, .inl c1)), (a6, .inl (cI, 61, .inl d1)), (a7, .inl (cI, 61, .inl e1)), (a8, .inl (cI, 6, .inl (kq (nI n) (nI len) (nI ll) pen bf bl))), (a9, .inl (cI, 60, .inl r1)), (aA, .inl (cI, 60, .inl o1))] ++ w6) H := hP
  have hD : va_D (lwA s) ([(a1, .inl (cI, 60, .inl v)), (a2, .inl (cI, 60, .inl hf)), (a3, .inl (cI, 60, .inl ad)), (a4, .inl (cI, 12, .inl gg)), (a5, .inl (cI, 61, .inl c1)), (a6, .inl (cI, 61, .inl d1)), (a7, .inl (cI, 61, .inl e1)), (a8, .inl (cI, 6, .inl (kq (nI n) (nI len) (nI ll) pen bf bl))), (a9, .inl (cI, 60, .inl r1)), (aA, .inl (cI, 60, .inl o1))] ++ w6) := hD
  have hw : r_1 = nI kb1 ∧ (kb1 = klow (z9 >>> (nI 5 &&& 31)) 1901 ∧ kb1 < 1901) := hw
  obtain ⟨hr9, hb1⟩ := hw
  refine wt_i hr9 ?_
  obtain ⟨hb1a, hb1b⟩ := hb1
  refine lv_iadd hx hb dL_law_709 ?_
  refine wt_i (nI_add _ _) ?_
  refine va_iast (D := D) hx hb hK hP hD hS 7 0 rfl rfl (vp_in_nI (by omega) (by decide)) dL_law_710 (fun H locs hP hD hS => ?_)
  rw [nI_clamp (n := 4) (by omega)] at hP hD
  rw [show upd (kq (nI n) (nI len) (nI ll) pen bf bl) 4 (nI (100 + kb1)) = kq (nI n) (nI len) (nI ll) pen (nI (100 + kb1)) bl from kq_u4 _ _ _ _ _ _ _] at hP hD
  have hP : va_P D vwCl ([(a1, .inl (cI, 60, .inl v)), (a2, .inl (cI, 60, .inl hf)), (a3, .inl (cI, 60, .inl ad)), (a4, .inl (cI, 12, .inl gg)), (a5, .inl (cI, 61, .inl c1)), (a6, .inl (cI, 61, .inl d1)), (a7, .inl (cI, 61, .inl e1)), (a8, .inl (cI, 6, .inl (kq (nI n) (nI len) (nI ll) pen (nI (100 + kb1)) bl))), (a9, .inl (cI, 60, .inl r1)), (aA, .inl (cI, 60, .inl o1))] ++ w6) H := hP
  have hD : va_D (lwA s) ([(a1, .inl (cI, 60, .inl v)), (a2, .inl (cI, 60, .inl hf)), (a3, .inl (cI, 60, .inl ad)), (a4, .inl (cI, 12, .inl gg)), (a5, .inl (cI, 61, .inl c1)), (a6, .inl (cI, 61, .inl d1)), (a7, .inl (cI, 61, .inl e1)), (a8, .inl (cI, 6, .inl (kq (nI n) (nI len) (nI ll) pen (nI (100 + kb1)) bl))), (a9, .inl (cI, 60, .inl r1)), (aA, .inl (cI, 60, .inl o1))] ++ w6) := hD
  refine lv_aload hx hb dL_law_711 (lv_at hl 11 rfl) ?_
  refine lv_iconst (v := nI 5) hx hb dL_law_713 (by decide) ?_
  refine lv_iload hx hb dL_law_714 (lv_at hl 13 rfl) ?_
  refine lv_bipush (v := nI 9) hx hb dL_law_716 (by decide) ?_
  refine lv_ishr hx hb dL_law_718 ?_
  refine lv_sipush (v := nI 1001) hx hb dL_law_719 (by decide) ?_
  refine klhi (X := [(a1, .inl (cI, 60, .inl v)), (a2, .inl (cI, 60, .inl hf)), (a3, .inl (cI, 60, .inl ad)), (a4, .inl (cI, 12, .inl gg)), (a5, .inl (cI, 61, .inl c1)), (a6, .inl (cI, 61, .inl d1)), (a7, .inl (cI, 61, .inl e1)), (a8, .inl (cI, 6, .inl (kq (nI n) (nI len) (nI ll) pen (nI (100 + kb1)) bl))), (a9, .inl (cI, 60, .inl r1)), (aA, .inl (cI, 60, .inl o1))]) (pl := w6) (wr := [(a1, .inl (cI, 60, .inl v)), (a2, .inl (cI, 60, .inl hf)), (a3, .inl (cI, 60, .inl ad)), (a4, .inl (cI, 12, .inl gg)), (a5, .inl (cI, 61, .inl c1)), (a6, .inl (cI, 61, .inl d1)), (a7, .inl (cI, 61, .inl e1)), (a8, .inl (cI, 6, .inl (kq (nI n) (nI len) (nI ll) pen (nI (100 + kb1)) bl))), (a9, .inl (cI, 60, .inl r1)), (aA, .inl (cI, 60, .inl o1))]) (pre := []) (va_runS (As := [.int (z9 >>> (nI 9 &&& 31)), .int (nI 1001)]) (rest := [.int (nI 5), .ref a8]) ⟨hx, hb, hml, hown, hts⟩ (c_L_low l D cI cZ cJ H.size (z9 >>> (nI 9 &&& 31)) 1001 (by first | assumption | omega) (by first | assumption | omega)) (va_cwS 2 hts gL_law_L_low rfl rfl rfl (by decide +kernel) ⟨Nat.le_of_ble_eq_true rfl, Nat.le_of_ble_eq_true rfl⟩) (kpreH hK hP hD [] (by decide +kernel) rfl) rfl rfl hl.1 rfl (lv_room (Nat.le_of_ble_eq_true rfl)) dL_law_722 ⟨by show cells + 0 ≤ room_1.cells; omega, by show slots + 0 ≤ room_1.slots; omega⟩) hP hD hS hA [] [0, 1, 2, 3, 4, 5, 6, 7, 8, 9] rfl rfl (by decide +kernel) (by decide +kernel) (fun r_2 kb2 H locs hw hP hD hS => ?_)
  have hP : va_P D vwCl ([(a1, .inl (cI, 60, .inl v)), (a2, .inl (cI, 60, .inl hf)), (a3, .inl (cI, 60, .inl ad)), (a4, .inl (cI, 12, .inl gg)), (a5, .inl (cI, 61, .inl c1)), (a6, .inl (cI, 61, .inl d1)), (a7, .inl (cI, 61, .inl e1)), (a8, .inl (cI, 6, .inl (kq (nI n) (nI len) (nI ll) pen (nI (100 + kb1)) bl))), (a9, .inl (cI, 60, .inl r1)), (aA, .inl (cI, 60, .inl o1))] ++ w6) H := hP
  have hD : va_D (lwA s) ([(a1, .inl (cI, 60, .inl v)), (a2, .inl (cI, 60, .inl hf)), (a3, .inl (cI, 60, .inl ad)), (a4, .inl (cI, 12, .inl gg)), (a5, .inl (cI, 61, .inl c1)), (a6, .inl (cI, 61, .inl d1)), (a7, .inl (cI, 61, .inl e1)), (a8, .inl (cI, 6, .inl (kq (nI n) (nI len) (nI ll) pen (nI (100 + kb1)) bl))), (a9, .inl (cI, 60, .inl r1)), (aA, .inl (cI, 60, .inl o1))] ++ w6) := hD
  have hw : r_2 = nI kb2 ∧ (kb2 = klow (z9 >>> (nI 9 &&& 31)) 1001 ∧ kb2 < 1001) := hw
  obtain ⟨hr9, hb2⟩ := hw
  refine wt_i hr9 ?_
  obtain ⟨hb2a, hb2b⟩ := hb2
  refine va_iast (D := D) hx hb hK hP hD hS 7 0 rfl rfl (vp_in_nI (by omega) (by decide)) dL_law_725 (fun H locs hP hD hS => ?_)
  rw [nI_clamp (n := 5) (by omega)] at hP hD
  rw [show upd (kq (nI n) (nI len) (nI ll) pen (nI (100 + kb1)) bl) 5 (nI kb2) = kq (nI n) (nI len) (nI ll) pen (nI (100 + kb1)) (nI kb2) from kq_u5 _ _ _ _ _ _ _] at hP hD
  have hP : va_P D vwCl ([(a1, .inl (cI, 60, .inl v)), (a2, .inl (cI, 60, .inl hf)), (a3, .inl (cI, 60, .inl ad)), (a4, .inl (cI, 12, .inl gg)), (a5, .inl (cI, 61, .inl c1)), (a6, .inl (cI, 61, .inl d1)), (a7, .inl (cI, 61, .inl e1)), (a8, .inl (cI, 6, .inl (kq (nI n) (nI len) (nI ll) pen (nI (100 + kb1)) (nI kb2)))), (a9, .inl (cI, 60, .inl r1)), (aA, .inl (cI, 60, .inl o1))] ++ w6) H := hP
  have hD : va_D (lwA s) ([(a1, .inl (cI, 60, .inl v)), (a2, .inl (cI, 60, .inl hf)), (a3, .inl (cI, 60, .inl ad)), (a4, .inl (cI, 12, .inl gg)), (a5, .inl (cI, 61, .inl c1)), (a6, .inl (cI, 61, .inl d1)), (a7, .inl (cI, 61, .inl e1)), (a8, .inl (cI, 6, .inl (kq (nI n) (nI len) (nI ll) pen (nI (100 + kb1)) (nI kb2)))), (a9, .inl (cI, 60, .inl r1)), (aA, .inl (cI, 60, .inl o1))] ++ w6) := hD
  refine lv_aload_n hx hb dL_law_726 rfl (lv_at hl 1 rfl) ?_
  refine lv_aload hx hb dL_law_727 (lv_at hl 11 rfl) ?_
  refine lv_iconst (v := nI 4) hx hb dL_law_729 (by decide) ?_
  refine va_iald (D := D) hx hb hK hP 7 0 rfl rfl (vp_in_nI (by omega) (by decide)) dL_law_730 ?_
  refine wt_i (by rw [nI_clamp (n := 4) (by omega)]) ?_
  refine wt_i (y := nI (100 + kb1)) rfl ?_
  refine lv_aload hx hb dL_law_731 (lv_at hl 11 rfl) ?_
  refine lv_iconst (v := nI 5) hx hb dL_law_733 (by decide) ?_
  refine va_iald (D := D) hx hb hK hP 7 0 rfl rfl (vp_in_nI (by omega) (by decide)) dL_law_734 ?_
  refine wt_i (by rw [nI_clamp (n := 5) (by omega)]) ?_
  refine wt_i (y := nI kb2) rfl ?_
  refine klcv (X := [(a1, .inl (cI, 60, .inl v)), (a2, .inl (cI, 60, .inl hf)), (a3, .inl (cI, 60, .inl ad)), (a4, .inl (cI, 12, .inl gg)), (a5, .inl (cI, 61, .inl c1)), (a6, .inl (cI, 61, .inl d1)), (a7, .inl (cI, 61, .inl e1)), (a8, .inl (cI, 6, .inl (kq (nI n) (nI len) (nI ll) pen (nI (100 + kb1)) (nI kb2)))), (a9, .inl (cI, 60, .inl r1)), (aA, .inl (cI, 60, .inl o1))]) (pl := w6) (va_runV (As := [.int (nI (100 + kb1)), .int (nI kb2)]) (rest := []) ⟨hx, hb, hml, hown, hts⟩ (c_X6_setBound l D cI cZ cJ H.size v hf n len ll pen bf bl o6 w6 (nI (100 + kb1)) (nI kb2) hok hst (knge (by omega) (by omega)) (nI_le (by omega) (by omega)) (knge (Nat.zero_le _) (by omega)) (nI_le (by omega) (by omega))) (cwV 2 hts gL_law_X6_setBound rfl rfl rfl (by decide +kernel) ⟨Nat.le_of_ble_eq_true rfl, Nat.le_of_ble_eq_true rfl⟩) (kpreL hK hP hD rfl (kSt_recv hst)) rfl rfl hl.1 rfl (lv_room (Nat.le_of_ble_eq_true rfl)) dL_law_735 ⟨by show cells + 0 ≤ room_1.cells; omega, by show slots + 0 ≤ room_1.slots; omega⟩) hP hD hS hA (fun w_4 H locs hw hP hD hS => ?_)
  have hst := hw
  have hP : va_P D vwCl ([(a1, .inl (cI, 60, .inl v)), (a2, .inl (cI, 60, .inl hf)), (a3, .inl (cI, 60, .inl ad)), (a4, .inl (cI, 12, .inl gg)), (a5, .inl (cI, 61, .inl c1)), (a6, .inl (cI, 61, .inl d1)), (a7, .inl (cI, 61, .inl e1)), (a8, .inl (cI, 6, .inl (kq (nI n) (nI len) (nI ll) pen (nI (100 + kb1)) (nI kb2)))), (a9, .inl (cI, 60, .inl r1)), (aA, .inl (cI, 60, .inl o1))] ++ w_4) H := hP
  have hD : va_D (lwA s) ([(a1, .inl (cI, 60, .inl v)), (a2, .inl (cI, 60, .inl hf)), (a3, .inl (cI, 60, .inl ad)), (a4, .inl (cI, 12, .inl gg)), (a5, .inl (cI, 61, .inl c1)), (a6, .inl (cI, 61, .inl d1)), (a7, .inl (cI, 61, .inl e1)), (a8, .inl (cI, 6, .inl (kq (nI n) (nI len) (nI ll) pen (nI (100 + kb1)) (nI kb2)))), (a9, .inl (cI, 60, .inl r1)), (aA, .inl (cI, 60, .inl o1))] ++ w_4) := hD
  refine W.widen (k := cells + 1) (n := slots + 6) (by show cells + 0 ≤ cells + 1; omega) (by show slots + 0 ≤ slots + 6; omega) ?_
  exact t_so (tl9 := nI 0) (z9 := z9) E hi70 (by show cells + 3 ≤ room_1.cells; omega) (by show slots + 18 ≤ room_1.slots; omega) (fun H locs ls h9 => kk H locs ls h9) (kOk_bound hok (kin_of (knge (by omega) (by omega)) (nI_le (by omega) (by omega))) (kin_of (knge (Nat.zero_le _) (by omega)) (nI_le (by omega) (by omega)))) hst hP hD hS (lv_sub hl [0, 1, 2, 3, 4, 5, 6, 7, 8, 9, 10, 11, 12, 13, 17, 18] rfl) 

set_option maxHeartbeats 4000000 in
set_option maxRecDepth 100000 in
theorem t_turn {p : Program} {l : Launch} {e : Env} {s : State} {m : MethodId} {below : List Frame} {meth : Method} {c : Code} {Q : State → Prop} {D : va_G} {cI cZ cJ : ClassId} {b L i cells slots : Nat} {xs : Nat → Int32} {H : Heap} {locs : List Loc} {ls : Array Slot} {v hf : Nat → Int32} {n len ll : Nat} {pen bf bl : Int32} {o6 a1 a2 a3 a4 a5 a6 a7 a8 a9 aA : Nat} {ad gg c1 d1 e1 r1 o1 : Nat → Int32} {w6 : va_W}  (E : lwE p l s m c D cI cZ cJ b L xs) (hi70 : i < 70) (hrc : cells + 3 ≤ room_1.cells) (hrs : slots + 18 ≤ room_1.slots) (kk : ∀ (H : Heap) (locs : List Loc) (ls : Array Slot), lwI s D cI cZ cJ b (i + 1) H locs ls → W p l e room_1 s m #[Value.ref b] below meth c H locs (cells + 3) (slots + 18) Q (F0 m 97 ls [])) (hok : kOk v hf n len ll pen bf bl) (hst : kSt cI cZ v hf n len ll pen bf bl 0 o6 w6) (hP : va_P D vwCl ([(a1, .inl (cI, 60, .inl v)), (a2, .inl (cI, 60, .inl hf)), (a3, .inl (cI, 60, .inl ad)), (a4, .inl (cI, 12, .inl gg)), (a5, .inl (cI, 61, .inl c1)), (a6, .inl (cI, 61, .inl d1)), (a7, .inl (cI, 61, .inl e1)), (a8, .inl (cI, 6, .inl (kq (nI n) (nI len) (nI ll) pen bf bl))), (a9, .inl (cI, 60, .inl r1)), (aA, .inl (cI, 60, .inl o1))] ++ w6) H) (hD : va_D (lwA s) ([(a1, .inl (cI, 60, .inl v)), (a2, .inl (cI, 60, .inl hf)), (a3, .inl (cI, 60, .inl ad)), (a4, .inl (cI, 12, .inl gg)), (a5, .inl (cI, 61, .inl c1)), (a6, .inl (cI, 61, .inl d1)), (a7, .inl (cI, 61, .inl e1)), (a8, .inl (cI, 6, .inl (kq (nI n) (nI len) (nI ll) pen bf bl))), (a9, .inl (cI, 60, .inl r1)), (aA, .inl (cI, 60, .inl o1))] ++ w6)) (hS : va_S (lwA s) s.heap H locs) (hl : lv_has ls 22 [(0, .ref b), (1, .ref o6), (2, .ref a1), (3, .ref a2), (4, .ref a3), (5, .ref a4), (6, .ref a5), (7, .ref a6), (8, .ref a7), (9, .ref a9), (10, .ref aA), (11, .ref a8), (12, .int (nI i))]) : W p l e room_1 s m #[Value.ref b] below meth c H locs cells slots Q (F0 m 104 ls []) := by
  obtain ⟨hx, hb, hml, hown, hts, hX, hbl, hK, hE, hlf, hL⟩ := id E
  obtain ⟨hn, hbit, hln1, hln2, hll, hlm, hvb, hpb, hbb, hfb⟩ := id hok
  have hA : ∀ q : Nat, s.heap.size ≤ q → lwA s q := fun _ h => h
  have hbA : ¬ lwA s b := Nat.not_le.mpr hbl
  refine lv_aload_n hx hb dL_law_104 rfl (lv_at hl 0 rfl) ?_
  refine lv_iload hx hb dL_law_105 (lv_at hl 12 rfl) ?_
  refine klhi (X := [(a1, .inl (cI, 60, .inl v)), (a2, .inl (cI, 60, .inl hf)), (a3, .inl (cI, 60, .inl ad)), (a4, .inl (cI, 12, .inl gg)), (a5, .inl (cI, 61, .inl c1)), (a6, .inl (cI, 61, .inl d1)), (a7, .inl (cI, 61, .inl e1)), (a8, .inl (cI, 6, .inl (kq (nI n) (nI len) (nI ll) pen bf bl))), (a9, .inl (cI, 60, .inl r1)), (aA, .inl (cI, 60, .inl o1))]) (pl := w6) (wr := [(a1, .inl (cI, 60, .inl v)), (a2, .inl (cI, 60, .inl hf)), (a3, .inl (cI, 60, .inl ad)), (a4, .inl (cI, 12, .inl gg)), (a5, .inl (cI, 61, .inl c1)), (a6, .inl (cI, 61, .inl d1)), (a7, .inl (cI, 61, .inl e1)), (a8, .inl (cI, 6, .inl (kq (nI n) (nI len) (nI ll) pen bf bl))), (a9, .inl (cI, 60, .inl r1)), (aA, .inl (cI, 60, .inl o1))]) (pre := []) (out := fun (_ : Unit) => []) (va_runS (As := [.ref b, .int (nI i)]) (rest := []) ⟨hx, hb, hml, hown, hts⟩ (c_L_cell l D cI cZ cJ H.size b L i xs (by omega) hL) (va_cwS 2 hts gL_law_L_cell rfl rfl rfl (by decide +kernel) ⟨Nat.le_of_ble_eq_true rfl, Nat.le_of_ble_eq_true rfl⟩) (kpreY hK hP hD hS hX hbl hbA) rfl rfl hl.1 rfl (lv_room (Nat.le_of_ble_eq_true rfl)) dL_law_107 ⟨by show cells + 0 ≤ room_1.cells; omega, by show slots + 0 ≤ room_1.slots; omega⟩) hP hD hS hA [] [0, 1, 2, 3, 4, 5, 6, 7, 8, 9] rfl rfl (by decide +kernel) (by decide +kernel) (fun z9 _ H locs _ hP hD hS => ?_)
  have hP : va_P D vwCl ([(a1, .inl (cI, 60, .inl v)), (a2, .inl (cI, 60, .inl hf)), (a3, .inl (cI, 60, .inl ad)), (a4, .inl (cI, 12, .inl gg)), (a5, .inl (cI, 61, .inl c1)), (a6, .inl (cI, 61, .inl d1)), (a7, .inl (cI, 61, .inl e1)), (a8, .inl (cI, 6, .inl (kq (nI n) (nI len) (nI ll) pen bf bl))), (a9, .inl (cI, 60, .inl r1)), (aA, .inl (cI, 60, .inl o1))] ++ w6) H := hP
  have hD : va_D (lwA s) ([(a1, .inl (cI, 60, .inl v)), (a2, .inl (cI, 60, .inl hf)), (a3, .inl (cI, 60, .inl ad)), (a4, .inl (cI, 12, .inl gg)), (a5, .inl (cI, 61, .inl c1)), (a6, .inl (cI, 61, .inl d1)), (a7, .inl (cI, 61, .inl e1)), (a8, .inl (cI, 6, .inl (kq (nI n) (nI len) (nI ll) pen bf bl))), (a9, .inl (cI, 60, .inl r1)), (aA, .inl (cI, 60, .inl o1))] ++ w6) := hD
  refine lv_istore (lv' := [(13, .int z9), (0, .ref b), (1, .ref o6), (2, .ref a1), (3, .ref a2), (4, .ref a3), (5, .ref a4), (6, .ref a5), (7, .ref a6), (8, .ref a7), (9, .ref a9), (10, .ref aA), (11, .ref a8), (12, .int (nI i))]) hx hb dL_law_110 hl (by decide) rfl (fun ls hl => ?_)
  refine wl_join2 (pc2 := 145) (fun (stk : List Value) (H : Heap) (locs : List Loc) (ls : Array Slot) => ∃ (act : Nat), stk = [.int (nI act)] ∧ (act < 16 ∧ (act < 8 → n ≤ 21)) ∧ va_P D vwCl ([(a1, .inl (cI, 60, .inl v)), (a2, .inl (cI, 60, .inl hf)), (a3, .inl (cI, 60, .inl ad)), (a4, .inl (cI, 12, .inl gg)), (a5, .inl (cI, 61, .inl c1)), (a6, .inl (cI, 61, .inl d1)), (a7, .inl (cI, 61, .inl e1)), (a8, .inl (cI, 6, .inl (kq (nI n) (nI len) (nI ll) pen bf bl))), (a9, .inl (cI, 60, .inl r1)), (aA, .inl (cI, 60, .inl o1))] ++ w6) H ∧ va_D (lwA s) ([(a1, .inl (cI, 60, .inl v)), (a2, .inl (cI, 60, .inl hf)), (a3, .inl (cI, 60, .inl ad)), (a4, .inl (cI, 12, .inl gg)), (a5, .inl (cI, 61, .inl c1)), (a6, .inl (cI, 61, .inl d1)), (a7, .inl (cI, 61, .inl e1)), (a8, .inl (cI, 6, .inl (kq (nI n) (nI len) (nI ll) pen bf bl))), (a9, .inl (cI, 60, .inl r1)), (aA, .inl (cI, 60, .inl o1))] ++ w6) ∧ va_S (lwA s) s.heap H locs ∧ lv_has ls 22 [(13, .int z9), (0, .ref b), (1, .ref o6), (2, .ref a1), (3, .ref a2), (4, .ref a3), (5, .ref a4), (6, .ref a5), (7, .ref a6), (8, .ref a7), (9, .ref a9), (10, .ref aA), (11, .ref a8), (12, .int (nI i))]) ?_ (fun j_1 => ?_)
  · skip
    rintro stk H locs ls ⟨act, rfl, hact, hP, hD, hS, hl⟩
    refine lv_istore (lv' := [(14, .int (nI act)), (13, .int z9), (0, .ref b), (1, .ref o6), (2, .ref a1), (3, .ref a2), (4, .ref a3), (5, .ref a4), (6, .ref a5), (7, .ref a6), (8, .ref a7), (9, .ref a9), (10, .ref aA), (11, .ref a8), (12, .int (nI i))]) hx hb dL_law_145 hl (by decide) rfl (fun ls hl => ?_)
    refine wl_join2 (pc2 := 188) (fun (stk : List Value) (H : Heap) (locs : List Loc) (ls : Array Slot) => ∃ (x9 : Int32), stk = [.int x9] ∧ (¬ x9 < (-10000 : Int32)) ∧ (x9 ≤ nI 10000) ∧ va_P D vwCl ([(a1, .inl (cI, 60, .inl v)), (a2, .inl (cI, 60, .inl hf)), (a3, .inl (cI, 60, .inl ad)), (a4, .inl (cI, 12, .inl gg)), (a5, .inl (cI, 61, .inl c1)), (a6, .inl (cI, 61, .inl d1)), (a7, .inl (cI, 61, .inl e1)), (a8, .inl (cI, 6, .inl (kq (nI n) (nI len) (nI ll) pen bf bl))), (a9, .inl (cI, 60, .inl r1)), (aA, .inl (cI, 60, .inl o1))] ++ w6) H ∧ va_D (lwA s) ([(a1, .inl (cI, 60, .inl v)), (a2, .inl (cI, 60, .inl hf)), (a3, .inl (cI, 60, .inl ad)), (a4, .inl (cI, 12, .inl gg)), (a5, .inl (cI, 61, .inl c1)), (a6, .inl (cI, 61, .inl d1)), (a7, .inl (cI, 61, .inl e1)), (a8, .inl (cI, 6, .inl (kq (nI n) (nI len) (nI ll) pen bf bl))), (a9, .inl (cI, 60, .inl r1)), (aA, .inl (cI, 60, .inl o1))] ++ w6) ∧ va_S (lwA s) s.heap H locs ∧ lv_has ls 22 [(14, .int (nI act)), (13, .int z9), (0, .ref b), (1, .ref o6), (2, .ref a1), (3, .ref a2), (4, .ref a3), (5, .ref a4), (6, .ref a5), (7, .ref a6), (8, .ref a7), (9, .ref a9), (10, .ref aA), (11, .ref a8), (12, .int (nI i))]) ?_ (fun j_2 => ?_)
    · skip
      rintro stk H locs ls ⟨x9, rfl, hx1, hx2, hP, hD, hS, hl⟩
      refine lv_istore (lv' := [(15, .int x9), (14, .int (nI act)), (13, .int z9), (0, .ref b), (1, .ref o6), (2, .ref a1), (3, .ref a2), (4, .ref a3), (5, .ref a4), (6, .ref a5), (7, .ref a6), (8, .ref a7), (9, .ref a9), (10, .ref aA), (11, .ref a8), (12, .int (nI i))]) hx hb dL_law_188 hl (by decide) rfl (fun ls hl => ?_)
      refine wl_join2 (pc2 := 213) (fun (stk : List Value) (H : Heap) (locs : List Loc) (ls : Array Slot) => ∃ (at9 : Nat), stk = [.int (nI at9)] ∧ ((0 < n → at9 < n) ∧ at9 ≤ 60) ∧ va_P D vwCl ([(a1, .inl (cI, 60, .inl v)), (a2, .inl (cI, 60, .inl hf)), (a3, .inl (cI, 60, .inl ad)), (a4, .inl (cI, 12, .inl gg)), (a5, .inl (cI, 61, .inl c1)), (a6, .inl (cI, 61, .inl d1)), (a7, .inl (cI, 61, .inl e1)), (a8, .inl (cI, 6, .inl (kq (nI n) (nI len) (nI ll) pen bf bl))), (a9, .inl (cI, 60, .inl r1)), (aA, .inl (cI, 60, .inl o1))] ++ w6) H ∧ va_D (lwA s) ([(a1, .inl (cI, 60, .inl v)), (a2, .inl (cI, 60, .inl hf)), (a3, .inl (cI, 60, .inl ad)), (a4, .inl (cI, 12, .inl gg)), (a5, .inl (cI, 61, .inl c1)), (a6, .inl (cI, 61, .inl d1)), (a7, .inl (cI, 61, .inl e1)), (a8, .inl (cI, 6, .inl (kq (nI n) (nI len) (nI ll) pen bf bl))), (a9, .inl (cI, 60, .inl r1)), (aA, .inl (cI, 60, .inl o1))] ++ w6) ∧ va_S (lwA s) s.heap H locs ∧ lv_has ls 22 [(15, .int x9), (14, .int (nI act)), (13, .int z9), (0, .ref b), (1, .ref o6), (2, .ref a1), (3, .ref a2), (4, .ref a3), (5, .ref a4), (6, .ref a5), (7, .ref a6), (8, .ref a7), (9, .ref a9), (10, .ref aA), (11, .ref a8), (12, .int (nI i))]) ?_ (fun j_3 => ?_)
      · skip
        rintro stk H locs ls ⟨at9, rfl, hat, hP, hD, hS, hl⟩
        refine lv_istore (lv' := [(16, .int (nI at9)), (15, .int x9), (14, .int (nI act)), (13, .int z9), (0, .ref b), (1, .ref o6), (2, .ref a1), (3, .ref a2), (4, .ref a3), (5, .ref a4), (6, .ref a5), (7, .ref a6), (8, .ref a7), (9, .ref a9), (10, .ref aA), (11, .ref a8), (12, .int (nI i))]) hx hb dL_law_213 hl (by decide) rfl (fun ls hl => ?_)
        refine lv_iconst (v := nI 0) hx hb dL_law_215 (by decide) ?_
        refine lv_istore (lv' := [(17, .int (nI 0)), (16, .int (nI at9)), (15, .int x9), (14, .int (nI act)), (13, .int z9), (0, .ref b), (1, .ref o6), (2, .ref a1), (3, .ref a2), (4, .ref a3), (5, .ref a4), (6, .ref a5), (7, .ref a6), (8, .ref a7), (9, .ref a9), (10, .ref aA), (11, .ref a8), (12, .int (nI i))]) hx hb dL_law_216 hl (by decide) rfl (fun ls hl => ?_)
        refine lv_iconst (v := nI 0) hx hb dL_law_218 (by decide) ?_
        refine lv_istore (lv' := [(18, .int (nI 0)), (17, .int (nI 0)), (16, .int (nI at9)), (15, .int x9), (14, .int (nI act)), (13, .int z9), (0, .ref b), (1, .ref o6), (2, .ref a1), (3, .ref a2), (4, .ref a3), (5, .ref a4), (6, .ref a5), (7, .ref a6), (8, .ref a7), (9, .ref a9), (10, .ref aA), (11, .ref a8), (12, .int (nI i))]) hx hb dL_law_219 hl (by decide) rfl (fun ls hl => ?_)
        refine lv_iload hx hb dL_law_221 (lv_at hl 4 rfl) ?_
        refine lv_bipush (v := nI 8) hx hb dL_law_223 (by decide) ?_
        refine lv_icmp_lt (tgt := 235) hx hb dL_law_225 (by decide) (fun c225 => ?_) (fun c225 => ?_)
        · skip
          have c225 := klt (a := act) (b := 8) c225 (by omega) (by omega)
          exact t_add (z9 := z9) (x9 := x9) (act := act) (at9 := at9) E hi70 (by show cells + 3 ≤ room_1.cells; omega) (by show slots + 18 ≤ room_1.slots; omega) (fun H locs ls h9 => kk H locs ls h9) hok hst hP hD hS (lv_sub hl [6, 7, 8, 9, 10, 11, 12, 13, 14, 15, 16, 17, 18, 5, 4, 3, 2, 1, 0] rfl) hx1 hx2 (by omega)
        · skip
          have c225 := knlt (a := act) (b := 8) c225 (by omega) (by omega)
          refine lv_aload hx hb dL_law_228 (lv_at hl 17 rfl) ?_
          refine lv_iconst (v := nI 0) hx hb dL_law_230 (by decide) ?_
          refine va_iald (D := D) hx hb hK hP 7 0 rfl rfl (vp_in_nI (by omega) (by decide)) dL_law_231 ?_
          refine wt_i (by rw [nI_clamp (n := 0) (by omega)]) ?_
          refine wt_i (y := nI n) rfl ?_
          refine lv_if_ne (tgt := 369) hx hb dL_law_232 (by decide) (fun c232 => ?_) (fun c232 => ?_)
          · skip
            have c232 := kneq (a := n) (b := 0) c232 (by omega) (by omega)
            refine lv_iload hx hb dL_law_369 (lv_at hl 4 rfl) ?_
            refine lv_bipush (v := nI 10) hx hb dL_law_371 (by decide) ?_
            refine lv_icmp_ge (tgt := 401) hx hb dL_law_373 (by decide) (fun c373 => ?_) (fun c373 => ?_)
            · skip
              have c373 := kle (a := 10) (b := act) c373 (by omega) (by omega)
              refine lv_iload hx hb dL_law_401 (lv_at hl 4 rfl) ?_
              refine lv_bipush (v := nI 10) hx hb dL_law_403 (by decide) ?_
              refine lv_icmp_ne (tgt := 466) hx hb dL_law_405 (by decide) (fun c405 => ?_) (fun c405 => ?_)
              · skip
                have c405 := kneq (a := act) (b := 10) c405 (by omega) (by omega)
                refine lv_iload hx hb dL_law_466 (lv_at hl 4 rfl) ?_
                refine lv_bipush (v := nI 11) hx hb dL_law_468 (by decide) ?_
                refine lv_icmp_ne (tgt := 584) hx hb dL_law_470 (by decide) (fun c470 => ?_) (fun c470 => ?_)
                · skip
                  have c470 := kneq (a := act) (b := 11) c470 (by omega) (by omega)
                  refine lv_iload hx hb dL_law_584 (lv_at hl 4 rfl) ?_
                  refine lv_bipush (v := nI 14) hx hb dL_law_586 (by decide) ?_
                  refine lv_icmp_ge (tgt := 625) hx hb dL_law_588 (by decide) (fun c588 => ?_) (fun c588 => ?_)
                  · skip
                    have c588 := kle (a := 14) (b := act) c588 (by omega) (by omega)
                    refine lv_iload hx hb dL_law_625 (lv_at hl 4 rfl) ?_
                    refine lv_bipush (v := nI 14) hx hb dL_law_627 (by decide) ?_
                    refine lv_icmp_ne (tgt := 694) hx hb dL_law_629 (by decide) (fun c629 => ?_) (fun c629 => ?_)
                    · skip
                      have c629 := kneq (a := act) (b := 14) c629 (by omega) (by omega)
                      exact t_bnd (z9 := z9) (x9 := x9) (act := act) (at9 := at9) E hi70 (by show cells + 3 ≤ room_1.cells; omega) (by show slots + 18 ≤ room_1.slots; omega) (fun H locs ls h9 => kk H locs ls h9) hok hst hP hD hS (lv_sub hl [6, 7, 8, 9, 10, 11, 12, 13, 14, 15, 16, 17, 18, 5, 4, 3, 2, 1, 0] rfl) 
                    · skip
                      have c629 := keq (a := act) (b := 14) c629 (by omega) (by omega)
                      exact t_cuts (z9 := z9) (x9 := x9) (act := act) (at9 := at9) E hi70 (by show cells + 3 ≤ room_1.cells; omega) (by show slots + 18 ≤ room_1.slots; omega) (fun H locs ls h9 => kk H locs ls h9) hok hst hP hD hS (lv_sub hl [6, 7, 8, 9, 10, 11, 12, 13, 14, 15, 16, 17, 18, 5, 4, 3, 2, 1, 0] rfl) 
                  · skip
                    have c588 := knle (a := 14) (b := act) c588 (by omega) (by omega)
                    exact t_seas (z9 := z9) (x9 := x9) (act := act) (at9 := at9) E hi70 (by show cells + 3 ≤ room_1.cells; omega) (by show slots + 18 ≤ room_1.slots; omega) (fun H locs ls h9 => kk H locs ls h9) hok hst hP hD hS (lv_sub hl [6, 7, 8, 9, 10, 11, 12, 13, 14, 15, 16, 17, 18, 5, 4, 3, 2, 1, 0] rfl) 
                · skip
                  have c470 := keq (a := act) (b := 11) c470 (by omega) (by omega)
                  exact t_drop (z9 := z9) (x9 := x9) (act := act) (at9 := at9) E hi70 (by show cells + 3 ≤ room_1.cells; omega) (by show slots + 18 ≤ room_1.slots; omega) (fun H locs ls h9 => kk H locs ls h9) hok hst hP hD hS (lv_sub hl [6, 7, 8, 9, 10, 11, 12, 13, 14, 15, 16, 17, 18, 5, 4, 3, 2, 1, 0] rfl) 
              · skip
                have c405 := keq (a := act) (b := 10) c405 (by omega) (by omega)
                exact t_hol (z9 := z9) (x9 := x9) (act := act) (at9 := at9) E hi70 (by show cells + 3 ≤ room_1.cells; omega) (by show slots + 18 ≤ room_1.slots; omega) (fun H locs ls h9 => kk H locs ls h9) hok hst hP hD hS (lv_sub hl [6, 7, 8, 9, 10, 11, 12, 13, 14, 15, 16, 17, 18, 5, 4, 3, 2, 1, 0] rfl) (hat.1 (by omega))
            · skip
              have c373 := knle (a := 10) (b := act) c373 (by omega) (by omega)
              exact t_corr (z9 := z9) (x9 := x9) (act := act) (at9 := at9) E hi70 (by show cells + 3 ≤ room_1.cells; omega) (by show slots + 18 ≤ room_1.slots; omega) (fun H locs ls h9 => kk H locs ls h9) hok hst hP hD hS (lv_sub hl [6, 7, 8, 9, 10, 11, 12, 13, 14, 15, 16, 17, 18, 5, 4, 3, 2, 1, 0] rfl) hx1 hx2 (hat.1 (by omega))
          · skip
            have c232 := keq (a := n) (b := 0) c232 (by omega) (by omega)
            exact t_add (z9 := z9) (x9 := x9) (act := act) (at9 := at9) E hi70 (by show cells + 3 ≤ room_1.cells; omega) (by show slots + 18 ≤ room_1.slots; omega) (fun H locs ls h9 => kk H locs ls h9) hok hst hP hD hS (lv_sub hl [6, 7, 8, 9, 10, 11, 12, 13, 14, 15, 16, 17, 18, 5, 4, 3, 2, 1, 0] rfl) hx1 hx2 (by omega)
      refine lv_aload hx hb dL_law_190 (lv_at hl 14 rfl) ?_
      refine lv_iconst (v := nI 0) hx hb dL_law_192 (by decide) ?_
      refine va_iald (D := D) hx hb hK hP 7 0 rfl rfl (vp_in_nI (by omega) (by decide)) dL_law_193 ?_
      refine wt_i (by rw [nI_clamp (n := 0) (by omega)]) ?_
      refine wt_i (y := nI n) rfl ?_
      refine lv_if_ne (tgt := 201) hx hb dL_law_194 (by decide) (fun c194 => ?_) (fun c194 => ?_)
      · skip
        have c194 := kneq (a := n) (b := 0) c194 (by omega) (by omega)
        refine lv_iload hx hb dL_law_201 (lv_at hl 2 rfl) ?_
        refine lv_bipush (v := nI 9) hx hb dL_law_203 (by decide) ?_
        refine lv_ishr hx hb dL_law_205 ?_
        refine lv_aload hx hb dL_law_206 (lv_at hl 14 rfl) ?_
        refine lv_iconst (v := nI 0) hx hb dL_law_208 (by decide) ?_
        refine va_iald (D := D) hx hb hK hP 7 0 rfl rfl (vp_in_nI (by omega) (by decide)) dL_law_209 ?_
        refine wt_i (by rw [nI_clamp (n := 0) (by omega)]) ?_
        refine wt_i (y := nI n) rfl ?_
        refine klhi (X := [(a1, .inl (cI, 60, .inl v)), (a2, .inl (cI, 60, .inl hf)), (a3, .inl (cI, 60, .inl ad)), (a4, .inl (cI, 12, .inl gg)), (a5, .inl (cI, 61, .inl c1)), (a6, .inl (cI, 61, .inl d1)), (a7, .inl (cI, 61, .inl e1)), (a8, .inl (cI, 6, .inl (kq (nI n) (nI len) (nI ll) pen bf bl))), (a9, .inl (cI, 60, .inl r1)), (aA, .inl (cI, 60, .inl o1))]) (pl := w6) (wr := [(a1, .inl (cI, 60, .inl v)), (a2, .inl (cI, 60, .inl hf)), (a3, .inl (cI, 60, .inl ad)), (a4, .inl (cI, 12, .inl gg)), (a5, .inl (cI, 61, .inl c1)), (a6, .inl (cI, 61, .inl d1)), (a7, .inl (cI, 61, .inl e1)), (a8, .inl (cI, 6, .inl (kq (nI n) (nI len) (nI ll) pen bf bl))), (a9, .inl (cI, 60, .inl r1)), (aA, .inl (cI, 60, .inl o1))]) (pre := []) (va_runS (As := [.int (z9 >>> (nI 9 &&& 31)), .int (nI n)]) (rest := []) ⟨hx, hb, hml, hown, hts⟩ (c_L_low l D cI cZ cJ H.size (z9 >>> (nI 9 &&& 31)) n (by first | assumption | omega) (by first | assumption | omega)) (va_cwS 2 hts gL_law_L_low rfl rfl rfl (by decide +kernel) ⟨Nat.le_of_ble_eq_true rfl, Nat.le_of_ble_eq_true rfl⟩) (kpreH hK hP hD [] (by decide +kernel) rfl) rfl rfl hl.1 rfl (lv_room (Nat.le_of_ble_eq_true rfl)) dL_law_210 ⟨by show cells + 0 ≤ room_1.cells; omega, by show slots + 0 ≤ room_1.slots; omega⟩) hP hD hS hA [] [0, 1, 2, 3, 4, 5, 6, 7, 8, 9] rfl rfl (by decide +kernel) (by decide +kernel) (fun r_4 ka1 H locs hw hP hD hS => ?_)
        have hP : va_P D vwCl ([(a1, .inl (cI, 60, .inl v)), (a2, .inl (cI, 60, .inl hf)), (a3, .inl (cI, 60, .inl ad)), (a4, .inl (cI, 12, .inl gg)), (a5, .inl (cI, 61, .inl c1)), (a6, .inl (cI, 61, .inl d1)), (a7, .inl (cI, 61, .inl e1)), (a8, .inl (cI, 6, .inl (kq (nI n) (nI len) (nI ll) pen bf bl))), (a9, .inl (cI, 60, .inl r1)), (aA, .inl (cI, 60, .inl o1))] ++ w6) H := hP
        have hD : va_D (lwA s) ([(a1, .inl (cI, 60, .inl v)), (a2, .inl (cI, 60, .inl hf)), (a3, .inl (cI, 60, .inl ad)), (a4, .inl (cI, 12, .inl gg)), (a5, .inl (cI, 61, .inl c1)), (a6, .inl (cI, 61, .inl d1)), (a7, .inl (cI, 61, .inl e1)), (a8, .inl (cI, 6, .inl (kq (nI n) (nI len) (nI ll) pen bf bl))), (a9, .inl (cI, 60, .inl r1)), (aA, .inl (cI, 60, .inl o1))] ++ w6) := hD
        have hw : r_4 = nI ka1 ∧ (ka1 = klow (z9 >>> (nI 9 &&& 31)) n ∧ ka1 < n) := hw
        obtain ⟨hr9, ha1⟩ := hw
        refine wt_i hr9 ?_
        obtain ⟨ha1a, ha1b⟩ := ha1
        exact j_3 _ _ _ _ ⟨ka1, rfl, ⟨fun _ => ha1b, by omega⟩, hP, hD, hS, lv_sub hl [0, 1, 2, 3, 4, 5, 6, 7, 8, 9, 10, 11, 12, 13, 14, 15] rfl⟩
      · skip
        have c194 := keq (a := n) (b := 0) c194 (by omega) (by omega)
        refine lv_iconst (v := nI 0) hx hb dL_law_197 (by decide) ?_
        refine lv_goto (tgt := 213) hx hb dL_law_198 (by decide) ?_
        exact j_3 _ _ _ _ ⟨0, rfl, ⟨fun h9 => by omega, by omega⟩, hP, hD, hS, lv_sub hl [0, 1, 2, 3, 4, 5, 6, 7, 8, 9, 10, 11, 12, 13, 14, 15] rfl⟩
    refine lv_iload hx hb dL_law_147 (lv_at hl 1 rfl) ?_
    refine lv_bipush (v := nI 12) hx hb dL_law_149 (by decide) ?_
    refine lv_ishr hx hb dL_law_151 ?_
    refine lv_iconst (v := nI 4) hx hb dL_law_152 (by decide) ?_
    refine klhi (X := [(a1, .inl (cI, 60, .inl v)), (a2, .inl (cI, 60, .inl hf)), (a3, .inl (cI, 60, .inl ad)), (a4, .inl (cI, 12, .inl gg)), (a5, .inl (cI, 61, .inl c1)), (a6, .inl (cI, 61, .inl d1)), (a7, .inl (cI, 61, .inl e1)), (a8, .inl (cI, 6, .inl (kq (nI n) (nI len) (nI ll) pen bf bl))), (a9, .inl (cI, 60, .inl r1)), (aA, .inl (cI, 60, .inl o1))]) (pl := w6) (wr := [(a1, .inl (cI, 60, .inl v)), (a2, .inl (cI, 60, .inl hf)), (a3, .inl (cI, 60, .inl ad)), (a4, .inl (cI, 12, .inl gg)), (a5, .inl (cI, 61, .inl c1)), (a6, .inl (cI, 61, .inl d1)), (a7, .inl (cI, 61, .inl e1)), (a8, .inl (cI, 6, .inl (kq (nI n) (nI len) (nI ll) pen bf bl))), (a9, .inl (cI, 60, .inl r1)), (aA, .inl (cI, 60, .inl o1))]) (pre := []) (va_runS (As := [.int (z9 >>> (nI 12 &&& 31)), .int (nI 4)]) (rest := []) ⟨hx, hb, hml, hown, hts⟩ (c_L_low l D cI cZ cJ H.size (z9 >>> (nI 12 &&& 31)) 4 (by first | assumption | omega) (by first | assumption | omega)) (va_cwS 2 hts gL_law_L_low rfl rfl rfl (by decide +kernel) ⟨Nat.le_of_ble_eq_true rfl, Nat.le_of_ble_eq_true rfl⟩) (kpreH hK hP hD [] (by decide +kernel) rfl) rfl rfl hl.1 rfl (lv_room (Nat.le_of_ble_eq_true rfl)) dL_law_153 ⟨by show cells + 0 ≤ room_1.cells; omega, by show slots + 0 ≤ room_1.slots; omega⟩) hP hD hS hA [] [0, 1, 2, 3, 4, 5, 6, 7, 8, 9] rfl rfl (by decide +kernel) (by decide +kernel) (fun r_5 kv1 H locs hw hP hD hS => ?_)
    have hP : va_P D vwCl ([(a1, .inl (cI, 60, .inl v)), (a2, .inl (cI, 60, .inl hf)), (a3, .inl (cI, 60, .inl ad)), (a4, .inl (cI, 12, .inl gg)), (a5, .inl (cI, 61, .inl c1)), (a6, .inl (cI, 61, .inl d1)), (a7, .inl (cI, 61, .inl e1)), (a8, .inl (cI, 6, .inl (kq (nI n) (nI len) (nI ll) pen bf bl))), (a9, .inl (cI, 60, .inl r1)), (aA, .inl (cI, 60, .inl o1))] ++ w6) H := hP
    have hD : va_D (lwA s) ([(a1, .inl (cI, 60, .inl v)), (a2, .inl (cI, 60, .inl hf)), (a3, .inl (cI, 60, .inl ad)), (a4, .inl (cI, 12, .inl gg)), (a5, .inl (cI, 61, .inl c1)), (a6, .inl (cI, 61, .inl d1)), (a7, .inl (cI, 61, .inl e1)), (a8, .inl (cI, 6, .inl (kq (nI n) (nI len) (nI ll) pen bf bl))), (a9, .inl (cI, 60, .inl r1)), (aA, .inl (cI, 60, .inl o1))] ++ w6) := hD
    have hw : r_5 = nI kv1 ∧ (kv1 = klow (z9 >>> (nI 12 &&& 31)) 4 ∧ kv1 < 4) := hw
    obtain ⟨hr9, hv1⟩ := hw
    refine wt_i hr9 ?_
    obtain ⟨hv1a, hv1b⟩ := hv1
    refine lv_if_ne (tgt := 176) hx hb dL_law_156 (by decide) (fun c156 => ?_) (fun c156 => ?_)
    · skip
      have c156 := kneq (a := kv1) (b := 0) c156 (by omega) (by omega)
      refine lv_iload hx hb dL_law_176 (lv_at hl 1 rfl) ?_
      refine lv_iconst (v := nI 4) hx hb dL_law_178 (by decide) ?_
      refine lv_ishr hx hb dL_law_179 ?_
      refine lv_bipush (v := nI 60) hx hb dL_law_180 (by decide) ?_
      refine klhi (X := [(a1, .inl (cI, 60, .inl v)), (a2, .inl (cI, 60, .inl hf)), (a3, .inl (cI, 60, .inl ad)), (a4, .inl (cI, 12, .inl gg)), (a5, .inl (cI, 61, .inl c1)), (a6, .inl (cI, 61, .inl d1)), (a7, .inl (cI, 61, .inl e1)), (a8, .inl (cI, 6, .inl (kq (nI n) (nI len) (nI ll) pen bf bl))), (a9, .inl (cI, 60, .inl r1)), (aA, .inl (cI, 60, .inl o1))]) (pl := w6) (wr := [(a1, .inl (cI, 60, .inl v)), (a2, .inl (cI, 60, .inl hf)), (a3, .inl (cI, 60, .inl ad)), (a4, .inl (cI, 12, .inl gg)), (a5, .inl (cI, 61, .inl c1)), (a6, .inl (cI, 61, .inl d1)), (a7, .inl (cI, 61, .inl e1)), (a8, .inl (cI, 6, .inl (kq (nI n) (nI len) (nI ll) pen bf bl))), (a9, .inl (cI, 60, .inl r1)), (aA, .inl (cI, 60, .inl o1))]) (pre := []) (va_runS (As := [.int (z9 >>> (nI 4 &&& 31)), .int (nI 60)]) (rest := []) ⟨hx, hb, hml, hown, hts⟩ (c_L_low l D cI cZ cJ H.size (z9 >>> (nI 4 &&& 31)) 60 (by first | assumption | omega) (by first | assumption | omega)) (va_cwS 2 hts gL_law_L_low rfl rfl rfl (by decide +kernel) ⟨Nat.le_of_ble_eq_true rfl, Nat.le_of_ble_eq_true rfl⟩) (kpreH hK hP hD [] (by decide +kernel) rfl) rfl rfl hl.1 rfl (lv_room (Nat.le_of_ble_eq_true rfl)) dL_law_182 ⟨by show cells + 0 ≤ room_1.cells; omega, by show slots + 0 ≤ room_1.slots; omega⟩) hP hD hS hA [] [0, 1, 2, 3, 4, 5, 6, 7, 8, 9] rfl rfl (by decide +kernel) (by decide +kernel) (fun r_6 kv3 H locs hw hP hD hS => ?_)
      have hP : va_P D vwCl ([(a1, .inl (cI, 60, .inl v)), (a2, .inl (cI, 60, .inl hf)), (a3, .inl (cI, 60, .inl ad)), (a4, .inl (cI, 12, .inl gg)), (a5, .inl (cI, 61, .inl c1)), (a6, .inl (cI, 61, .inl d1)), (a7, .inl (cI, 61, .inl e1)), (a8, .inl (cI, 6, .inl (kq (nI n) (nI len) (nI ll) pen bf bl))), (a9, .inl (cI, 60, .inl r1)), (aA, .inl (cI, 60, .inl o1))] ++ w6) H := hP
      have hD : va_D (lwA s) ([(a1, .inl (cI, 60, .inl v)), (a2, .inl (cI, 60, .inl hf)), (a3, .inl (cI, 60, .inl ad)), (a4, .inl (cI, 12, .inl gg)), (a5, .inl (cI, 61, .inl c1)), (a6, .inl (cI, 61, .inl d1)), (a7, .inl (cI, 61, .inl e1)), (a8, .inl (cI, 6, .inl (kq (nI n) (nI len) (nI ll) pen bf bl))), (a9, .inl (cI, 60, .inl r1)), (aA, .inl (cI, 60, .inl o1))] ++ w6) := hD
      have hw : r_6 = nI kv3 ∧ (kv3 = klow (z9 >>> (nI 4 &&& 31)) 60 ∧ kv3 < 60) := hw
      obtain ⟨hr9, hv3⟩ := hw
      refine wt_i hr9 ?_
      obtain ⟨hv3a, hv3b⟩ := hv3
      refine lv_bipush (v := nI 20) hx hb dL_law_185 (by decide) ?_
      refine lv_isub hx hb dL_law_187 ?_
      refine wt_i (y := (nI kv3 - nI 20)) (rfl) ?_
      exact j_2 _ _ _ _ ⟨(nI kv3 - nI 20), rfl, (kval (by omega) (by omega)).1, (kval (by omega) (by omega)).2, hP, hD, hS, lv_sub hl [0, 1, 2, 3, 4, 5, 6, 7, 8, 9, 10, 11, 12, 13, 14] rfl⟩
    · skip
      have c156 := keq (a := kv1) (b := 0) c156 (by omega) (by omega)
      refine lv_iload hx hb dL_law_159 (lv_at hl 1 rfl) ?_
      refine lv_iconst (v := nI 4) hx hb dL_law_161 (by decide) ?_
      refine lv_ishr hx hb dL_law_162 ?_
      refine lv_sipush (v := nI 20001) hx hb dL_law_163 (by decide) ?_
      refine klhi (X := [(a1, .inl (cI, 60, .inl v)), (a2, .inl (cI, 60, .inl hf)), (a3, .inl (cI, 60, .inl ad)), (a4, .inl (cI, 12, .inl gg)), (a5, .inl (cI, 61, .inl c1)), (a6, .inl (cI, 61, .inl d1)), (a7, .inl (cI, 61, .inl e1)), (a8, .inl (cI, 6, .inl (kq (nI n) (nI len) (nI ll) pen bf bl))), (a9, .inl (cI, 60, .inl r1)), (aA, .inl (cI, 60, .inl o1))]) (pl := w6) (wr := [(a1, .inl (cI, 60, .inl v)), (a2, .inl (cI, 60, .inl hf)), (a3, .inl (cI, 60, .inl ad)), (a4, .inl (cI, 12, .inl gg)), (a5, .inl (cI, 61, .inl c1)), (a6, .inl (cI, 61, .inl d1)), (a7, .inl (cI, 61, .inl e1)), (a8, .inl (cI, 6, .inl (kq (nI n) (nI len) (nI ll) pen bf bl))), (a9, .inl (cI, 60, .inl r1)), (aA, .inl (cI, 60, .inl o1))]) (pre := []) (va_runS (As := [.int (z9 >>> (nI 4 &&& 31)), .int (nI 20001)]) (rest := []) ⟨hx, hb, hml, hown, hts⟩ (c_L_low l D cI cZ cJ H.size (z9 >>> (nI 4 &&& 31)) 20001 (by first | assumption | omega) (by first | assumption | omega)) (va_cwS 2 hts gL_law_L_low rfl rfl rfl (by decide +kernel) ⟨Nat.le_of_ble_eq_true rfl, Nat.le_of_ble_eq_true rfl⟩) (kpreH hK hP hD [] (by decide +kernel) rfl) rfl rfl hl.1 rfl (lv_room (Nat.le_of_ble_eq_true rfl)) dL_law_166 ⟨by show cells + 0 ≤ room_1.cells; omega, by show slots + 0 ≤ room_1.slots; omega⟩) hP hD hS hA [] [0, 1, 2, 3, 4, 5, 6, 7, 8, 9] rfl rfl (by decide +kernel) (by decide +kernel) (fun r_7 kv2 H locs hw hP hD hS => ?_)
      have hP : va_P D vwCl ([(a1, .inl (cI, 60, .inl v)), (a2, .inl (cI, 60, .inl hf)), (a3, .inl (cI, 60, .inl ad)), (a4, .inl (cI, 12, .inl gg)), (a5, .inl (cI, 61, .inl c1)), (a6, .inl (cI, 61, .inl d1)), (a7, .inl (cI, 61, .inl e1)), (a8, .inl (cI, 6, .inl (kq (nI n) (nI len) (nI ll) pen bf bl))), (a9, .inl (cI, 60, .inl r1)), (aA, .inl (cI, 60, .inl o1))] ++ w6) H := hP
      have hD : va_D (lwA s) ([(a1, .inl (cI, 60, .inl v)), (a2, .inl (cI, 60, .inl hf)), (a3, .inl (cI, 60, .inl ad)), (a4, .inl (cI, 12, .inl gg)), (a5, .inl (cI, 61, .inl c1)), (a6, .inl (cI, 61, .inl d1)), (a7, .inl (cI, 61, .inl e1)), (a8, .inl (cI, 6, .inl (kq (nI n) (nI len) (nI ll) pen bf bl))), (a9, .inl (cI, 60, .inl r1)), (aA, .inl (cI, 60, .inl o1))] ++ w6) := hD
      have hw : r_7 = nI kv2 ∧ (kv2 = klow (z9 >>> (nI 4 &&& 31)) 20001 ∧ kv2 < 20001) := hw
      obtain ⟨hr9, hv2⟩ := hw
      refine wt_i hr9 ?_
      obtain ⟨hv2a, hv2b⟩ := hv2
      refine lv_sipush (v := nI 10000) hx hb dL_law_169 (by decide) ?_
      refine lv_isub hx hb dL_law_172 ?_
      refine wt_i (y := (nI kv2 - nI 10000)) (rfl) ?_
      refine lv_goto (tgt := 188) hx hb dL_law_173 (by decide) ?_
      exact j_2 _ _ _ _ ⟨(nI kv2 - nI 10000), rfl, (kval (by omega) (by omega)).1, (kval (by omega) (by omega)).2, hP, hD, hS, lv_sub hl [0, 1, 2, 3, 4, 5, 6, 7, 8, 9, 10, 11, 12, 13, 14] rfl⟩
  refine lv_iload hx hb dL_law_112 (lv_at hl 0 rfl) ?_
  refine lv_bipush (v := nI 16) hx hb dL_law_114 (by decide) ?_
  refine klhi (X := [(a1, .inl (cI, 60, .inl v)), (a2, .inl (cI, 60, .inl hf)), (a3, .inl (cI, 60, .inl ad)), (a4, .inl (cI, 12, .inl gg)), (a5, .inl (cI, 61, .inl c1)), (a6, .inl (cI, 61, .inl d1)), (a7, .inl (cI, 61, .inl e1)), (a8, .inl (cI, 6, .inl (kq (nI n) (nI len) (nI ll) pen bf bl))), (a9, .inl (cI, 60, .inl r1)), (aA, .inl (cI, 60, .inl o1))]) (pl := w6) (wr := [(a1, .inl (cI, 60, .inl v)), (a2, .inl (cI, 60, .inl hf)), (a3, .inl (cI, 60, .inl ad)), (a4, .inl (cI, 12, .inl gg)), (a5, .inl (cI, 61, .inl c1)), (a6, .inl (cI, 61, .inl d1)), (a7, .inl (cI, 61, .inl e1)), (a8, .inl (cI, 6, .inl (kq (nI n) (nI len) (nI ll) pen bf bl))), (a9, .inl (cI, 60, .inl r1)), (aA, .inl (cI, 60, .inl o1))]) (pre := []) (va_runS (As := [.int z9, .int (nI 16)]) (rest := []) ⟨hx, hb, hml, hown, hts⟩ (c_L_low l D cI cZ cJ H.size z9 16 (by first | assumption | omega) (by first | assumption | omega)) (va_cwS 2 hts gL_law_L_low rfl rfl rfl (by decide +kernel) ⟨Nat.le_of_ble_eq_true rfl, Nat.le_of_ble_eq_true rfl⟩) (kpreH hK hP hD [] (by decide +kernel) rfl) rfl rfl hl.1 rfl (lv_room (Nat.le_of_ble_eq_true rfl)) dL_law_116 ⟨by show cells + 0 ≤ room_1.cells; omega, by show slots + 0 ≤ room_1.slots; omega⟩) hP hD hS hA [] [0, 1, 2, 3, 4, 5, 6, 7, 8, 9] rfl rfl (by decide +kernel) (by decide +kernel) (fun r_8 kz1 H locs hw hP hD hS => ?_)
  have hP : va_P D vwCl ([(a1, .inl (cI, 60, .inl v)), (a2, .inl (cI, 60, .inl hf)), (a3, .inl (cI, 60, .inl ad)), (a4, .inl (cI, 12, .inl gg)), (a5, .inl (cI, 61, .inl c1)), (a6, .inl (cI, 61, .inl d1)), (a7, .inl (cI, 61, .inl e1)), (a8, .inl (cI, 6, .inl (kq (nI n) (nI len) (nI ll) pen bf bl))), (a9, .inl (cI, 60, .inl r1)), (aA, .inl (cI, 60, .inl o1))] ++ w6) H := hP
  have hD : va_D (lwA s) ([(a1, .inl (cI, 60, .inl v)), (a2, .inl (cI, 60, .inl hf)), (a3, .inl (cI, 60, .inl ad)), (a4, .inl (cI, 12, .inl gg)), (a5, .inl (cI, 61, .inl c1)), (a6, .inl (cI, 61, .inl d1)), (a7, .inl (cI, 61, .inl e1)), (a8, .inl (cI, 6, .inl (kq (nI n) (nI len) (nI ll) pen bf bl))), (a9, .inl (cI, 60, .inl r1)), (aA, .inl (cI, 60, .inl o1))] ++ w6) := hD
  have hw : r_8 = nI kz1 ∧ (kz1 = klow z9 16 ∧ kz1 < 16) := hw
  obtain ⟨hr9, hz1⟩ := hw
  refine wt_i hr9 ?_
  obtain ⟨hz1a, hz1b⟩ := hz1
  refine lv_bipush (v := nI 8) hx hb dL_law_119 (by decide) ?_
  refine lv_icmp_ge (tgt := 138) hx hb dL_law_121 (by decide) (fun c121 => ?_) (fun c121 => ?_)
  · skip
    have c121 := kle (a := 8) (b := kz1) c121 (by omega) (by omega)
    refine lv_iload hx hb dL_law_138 (lv_at hl 0 rfl) ?_
    refine lv_bipush (v := nI 16) hx hb dL_law_140 (by decide) ?_
    refine klhi (X := [(a1, .inl (cI, 60, .inl v)), (a2, .inl (cI, 60, .inl hf)), (a3, .inl (cI, 60, .inl ad)), (a4, .inl (cI, 12, .inl gg)), (a5, .inl (cI, 61, .inl c1)), (a6, .inl (cI, 61, .inl d1)), (a7, .inl (cI, 61, .inl e1)), (a8, .inl (cI, 6, .inl (kq (nI n) (nI len) (nI ll) pen bf bl))), (a9, .inl (cI, 60, .inl r1)), (aA, .inl (cI, 60, .inl o1))]) (pl := w6) (wr := [(a1, .inl (cI, 60, .inl v)), (a2, .inl (cI, 60, .inl hf)), (a3, .inl (cI, 60, .inl ad)), (a4, .inl (cI, 12, .inl gg)), (a5, .inl (cI, 61, .inl c1)), (a6, .inl (cI, 61, .inl d1)), (a7, .inl (cI, 61, .inl e1)), (a8, .inl (cI, 6, .inl (kq (nI n) (nI len) (nI ll) pen bf bl))), (a9, .inl (cI, 60, .inl r1)), (aA, .inl (cI, 60, .inl o1))]) (pre := []) (va_runS (As := [.int z9, .int (nI 16)]) (rest := []) ⟨hx, hb, hml, hown, hts⟩ (c_L_low l D cI cZ cJ H.size z9 16 (by first | assumption | omega) (by first | assumption | omega)) (va_cwS 2 hts gL_law_L_low rfl rfl rfl (by decide +kernel) ⟨Nat.le_of_ble_eq_true rfl, Nat.le_of_ble_eq_true rfl⟩) (kpreH hK hP hD [] (by decide +kernel) rfl) rfl rfl hl.1 rfl (lv_room (Nat.le_of_ble_eq_true rfl)) dL_law_142 ⟨by show cells + 0 ≤ room_1.cells; omega, by show slots + 0 ≤ room_1.slots; omega⟩) hP hD hS hA [] [0, 1, 2, 3, 4, 5, 6, 7, 8, 9] rfl rfl (by decide +kernel) (by decide +kernel) (fun r_9 kz2 H locs hw hP hD hS => ?_)
    have hP : va_P D vwCl ([(a1, .inl (cI, 60, .inl v)), (a2, .inl (cI, 60, .inl hf)), (a3, .inl (cI, 60, .inl ad)), (a4, .inl (cI, 12, .inl gg)), (a5, .inl (cI, 61, .inl c1)), (a6, .inl (cI, 61, .inl d1)), (a7, .inl (cI, 61, .inl e1)), (a8, .inl (cI, 6, .inl (kq (nI n) (nI len) (nI ll) pen bf bl))), (a9, .inl (cI, 60, .inl r1)), (aA, .inl (cI, 60, .inl o1))] ++ w6) H := hP
    have hD : va_D (lwA s) ([(a1, .inl (cI, 60, .inl v)), (a2, .inl (cI, 60, .inl hf)), (a3, .inl (cI, 60, .inl ad)), (a4, .inl (cI, 12, .inl gg)), (a5, .inl (cI, 61, .inl c1)), (a6, .inl (cI, 61, .inl d1)), (a7, .inl (cI, 61, .inl e1)), (a8, .inl (cI, 6, .inl (kq (nI n) (nI len) (nI ll) pen bf bl))), (a9, .inl (cI, 60, .inl r1)), (aA, .inl (cI, 60, .inl o1))] ++ w6) := hD
    have hw : r_9 = nI kz2 ∧ (kz2 = klow z9 16 ∧ kz2 < 16) := hw
    obtain ⟨hr9, hz2⟩ := hw
    refine wt_i hr9 ?_
    obtain ⟨hz2a, hz2b⟩ := hz2
    exact j_1 _ _ _ _ ⟨kz2, rfl, ⟨by omega, fun h9 => by omega⟩, hP, hD, hS, lv_sub hl [0, 1, 2, 3, 4, 5, 6, 7, 8, 9, 10, 11, 12, 13] rfl⟩
  · skip
    have c121 := knle (a := 8) (b := kz1) c121 (by omega) (by omega)
    refine lv_aload hx hb dL_law_124 (lv_at hl 12 rfl) ?_
    refine lv_iconst (v := nI 0) hx hb dL_law_126 (by decide) ?_
    refine va_iald (D := D) hx hb hK hP 7 0 rfl rfl (vp_in_nI (by omega) (by decide)) dL_law_127 ?_
    refine wt_i (by rw [nI_clamp (n := 0) (by omega)]) ?_
    refine wt_i (y := nI n) rfl ?_
    refine lv_bipush (v := nI 21) hx hb dL_law_128 (by decide) ?_
    refine lv_icmp_le (tgt := 138) hx hb dL_law_130 (by decide) (fun c130 => ?_) (fun c130 => ?_)
    · skip
      have c130 := kle (a := n) (b := 21) c130 (by omega) (by omega)
      refine lv_iload hx hb dL_law_138 (lv_at hl 0 rfl) ?_
      refine lv_bipush (v := nI 16) hx hb dL_law_140 (by decide) ?_
      refine klhi (X := [(a1, .inl (cI, 60, .inl v)), (a2, .inl (cI, 60, .inl hf)), (a3, .inl (cI, 60, .inl ad)), (a4, .inl (cI, 12, .inl gg)), (a5, .inl (cI, 61, .inl c1)), (a6, .inl (cI, 61, .inl d1)), (a7, .inl (cI, 61, .inl e1)), (a8, .inl (cI, 6, .inl (kq (nI n) (nI len) (nI ll) pen bf bl))), (a9, .inl (cI, 60, .inl r1)), (aA, .inl (cI, 60, .inl o1))]) (pl := w6) (wr := [(a1, .inl (cI, 60, .inl v)), (a2, .inl (cI, 60, .inl hf)), (a3, .inl (cI, 60, .inl ad)), (a4, .inl (cI, 12, .inl gg)), (a5, .inl (cI, 61, .inl c1)), (a6, .inl (cI, 61, .inl d1)), (a7, .inl (cI, 61, .inl e1)), (a8, .inl (cI, 6, .inl (kq (nI n) (nI len) (nI ll) pen bf bl))), (a9, .inl (cI, 60, .inl r1)), (aA, .inl (cI, 60, .inl o1))]) (pre := []) (va_runS (As := [.int z9, .int (nI 16)]) (rest := []) ⟨hx, hb, hml, hown, hts⟩ (c_L_low l D cI cZ cJ H.size z9 16 (by first | assumption | omega) (by first | assumption | omega)) (va_cwS 2 hts gL_law_L_low rfl rfl rfl (by decide +kernel) ⟨Nat.le_of_ble_eq_true rfl, Nat.le_of_ble_eq_true rfl⟩) (kpreH hK hP hD [] (by decide +kernel) rfl) rfl rfl hl.1 rfl (lv_room (Nat.le_of_ble_eq_true rfl)) dL_law_142 ⟨by show cells + 0 ≤ room_1.cells; omega, by show slots + 0 ≤ room_1.slots; omega⟩) hP hD hS hA [] [0, 1, 2, 3, 4, 5, 6, 7, 8, 9] rfl rfl (by decide +kernel) (by decide +kernel) (fun r_10 kz2 H locs hw hP hD hS => ?_)
      have hP : va_P D vwCl ([(a1, .inl (cI, 60, .inl v)), (a2, .inl (cI, 60, .inl hf)), (a3, .inl (cI, 60, .inl ad)), (a4, .inl (cI, 12, .inl gg)), (a5, .inl (cI, 61, .inl c1)), (a6, .inl (cI, 61, .inl d1)), (a7, .inl (cI, 61, .inl e1)), (a8, .inl (cI, 6, .inl (kq (nI n) (nI len) (nI ll) pen bf bl))), (a9, .inl (cI, 60, .inl r1)), (aA, .inl (cI, 60, .inl o1))] ++ w6) H := hP
      have hD : va_D (lwA s) ([(a1, .inl (cI, 60, .inl v)), (a2, .inl (cI, 60, .inl hf)), (a3, .inl (cI, 60, .inl ad)), (a4, .inl (cI, 12, .inl gg)), (a5, .inl (cI, 61, .inl c1)), (a6, .inl (cI, 61, .inl d1)), (a7, .inl (cI, 61, .inl e1)), (a8, .inl (cI, 6, .inl (kq (nI n) (nI len) (nI ll) pen bf bl))), (a9, .inl (cI, 60, .inl r1)), (aA, .inl (cI, 60, .inl o1))] ++ w6) := hD
      have hw : r_10 = nI kz2 ∧ (kz2 = klow z9 16 ∧ kz2 < 16) := hw
      obtain ⟨hr9, hz2⟩ := hw
      refine wt_i hr9 ?_
      obtain ⟨hz2a, hz2b⟩ := hz2
      exact j_1 _ _ _ _ ⟨kz2, rfl, ⟨by omega, fun h9 => by omega⟩, hP, hD, hS, lv_sub hl [0, 1, 2, 3, 4, 5, 6, 7, 8, 9, 10, 11, 12, 13] rfl⟩
    · skip
      have c130 := knle (a := n) (b := 21) c130 (by omega) (by omega)
      refine lv_bipush (v := nI 11) hx hb dL_law_133 (by decide) ?_
      refine lv_goto (tgt := 145) hx hb dL_law_135 (by decide) ?_
      exact j_1 _ _ _ _ ⟨11, rfl, ⟨by omega, fun h9 => by omega⟩, hP, hD, hS, lv_sub hl [0, 1, 2, 3, 4, 5, 6, 7, 8, 9, 10, 11, 12, 13] rfl⟩

set_option maxHeartbeats 4000000 in
set_option maxRecDepth 100000 in
theorem law_loop {p : Program} {l : Launch} {e : Env} {s : State} {m : MethodId} {below : List Frame} {meth : Method} {c : Code} {D : va_G} {cI cZ cJ : ClassId} {b L : Nat} {xs : Nat → Int32} (E0 : lwE p l s m c D cI cZ cJ b L xs) {Q : State → Prop}
    (hend : ∀ (H : Heap) (locs : List Loc) (ls : Array Slot) (cells slots : Nat), cells ≤ 2000 → slots ≤ 20000 → va_S (lwA s) s.heap H locs → W p l e room_1 s m #[Value.ref b] below meth c H locs cells slots Q (F0 m 783 ls [.int 1])) :
    ∀ (d i cells slots : Nat) (H : Heap) (locs : List Loc) (ls : Array Slot), i + d = 70 → cells + 3 * d ≤ 2000 → slots + 18 * d ≤ 20000 → lwI s D cI cZ cJ b i H locs ls → W p l e room_1 s m #[Value.ref b] below meth c H locs cells slots Q (F0 m 97 ls []) := by
  obtain ⟨hx, hb, hml, hown, hts, hX, hbl, hK, hE, hlf, hL⟩ := id E0
  intro d
  induction d with
  | zero =>
    intro i cells slots H locs ls h1 h3 h4 I
    obtain ⟨v, hf, n, len, ll, pen, bf, bl, o6, a1, a2, a3, a4, a5, a6, a7, a8, a9, aA, ad, gg, c1, d1, e1, r1, o1, w6, hok, hst, hP, hD, hS, hl⟩ := I
    refine lv_iload hx hb dL_law_97 (lv_at hl 12 rfl) ?_
    refine lv_bipush (v := nI 70) hx hb dL_law_99 (by decide) ?_
    refine lv_icmp_ge (tgt := 782) hx hb dL_law_101 (by decide) (fun c101 => ?_) (fun c101 => ?_)
    · refine lv_iconst (v := 1) hx hb dL_law_782 (by decide) ?_
      exact hend _ _ _ _ _ (by omega) (by omega) hS
    · have c101 := knle (a := 70) (b := i) c101 (by omega) (by omega)
      omega
  | succ d ih =>
    intro i cells slots H locs ls h1 h3 h4 I
    obtain ⟨v, hf, n, len, ll, pen, bf, bl, o6, a1, a2, a3, a4, a5, a6, a7, a8, a9, aA, ad, gg, c1, d1, e1, r1, o1, w6, hok, hst, hP, hD, hS, hl⟩ := I
    refine lv_iload hx hb dL_law_97 (lv_at hl 12 rfl) ?_
    refine lv_bipush (v := nI 70) hx hb dL_law_99 (by decide) ?_
    refine lv_icmp_ge (tgt := 782) hx hb dL_law_101 (by decide) (fun c101 => ?_) (fun c101 => ?_)
    · have c101 := kle (a := 70) (b := i) c101 (by omega) (by omega)
      omega
    · have r1 : room_1.cells = 667069 := rfl
      have r2 : room_1.slots = 7099975 := rfl
      exact t_turn E0 (by omega) (by omega) (by omega) (fun H locs ls h9 => ih (i + 1) (cells + 3) (slots + 18) H locs ls (by omega) (by omega) (by omega) h9) hok hst hP hD hS hl

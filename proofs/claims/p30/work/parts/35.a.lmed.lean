set_option maxHeartbeats 4000000 in
set_option maxRecDepth 100000 in
theorem c_L_low (l : Launch) (D : va_G) (cI cZ cJ : ClassId) (sz : Nat) (x : Int32) (n : Nat) (hn0 : 1 ≤ n) (hnb : n < 100000) : Met l yL_low wsL_low ({ frames := 0, cells := 0, slots := 0, locals := 0 }) (va_Pc [.int x, .int (nI n)] (kPre D (tyA cI cZ cJ) sz [])) (va_Qi (fun (r : Int32) (k9 : Nat) => r = nI k9 ∧ k9 = klow x n ∧ k9 < n) (kPost D (tyA cI cZ cJ) (va_A [] sz) (fun (k9 : Nat) => [])) (va_A [] sz)) 0 0 (va_A [] sz) := by
  refine kOfW (cc := cL_low) (maxL := 2) (ret := (some .int)) (fun A => va_Qi (fun (r : Int32) (k9 : Nat) => r = nI k9 ∧ k9 = klow x n ∧ k9 < n) (kPost D (tyA cI cZ cJ) (A) (fun (k9 : Nat) => [])) (A)) (by decide) rfl (Nat.le_of_ble_eq_true rfl) ?_
  intro p_ e_ s m_ below_ meth_ c_ A ls hx hb hr hml hts hown hlocks hin hA hP hK hD hsz hl
  have hS : va_S A s.heap s.heap [] := va_S.rf
  have hl : lv_has ls 2 [(0, .int x), (1, .int (nI n))] := hl
  refine lv_iload_n hx hb dL_low_0 rfl (lv_at hl 0 rfl) ?_
  refine lv_ldc (v := nI 2147483647) hx hb hown (hts (.constant RL 9 (2147483647)) (by decide +kernel)) dL_low_1 ?_
  refine lv_iand hx hb dL_low_3 ?_
  refine wt_i (y := nI (x.toBitVec.toNat % 2 ^ 31)) (pk_and x 31 (by decide)) ?_
  refine lv_iload_n hx hb dL_low_4 rfl (lv_at hl 1 rfl) ?_
  refine lv_irem hx hb dL_low_5 (nI_ne0 (by omega) (by omega)) ?_
  refine wt_i (pk_rem (by omega) (by omega) (by omega)) ?_
  exact kri hx hb hr hlocks hP hK hD hS (klow x n) (⟨rfl, rfl, Nat.mod_lt _ (by omega)⟩) [] (by decide +kernel) rfl dL_low_6

/-! the script's own reader -/
def kPreY (D : va_G) (tys : List (ClassId × FieldType)) (sz b L : Nat) (xs : Nat → Int32) : State → Prop := fun U => kPre D tys sz [] U ∧ va_X b L xs U U.heap ∧ b < sz
theorem kblindY {D : va_G} {tys : List (ClassId × FieldType)} {sz b L : Nat} {xs : Nat → Int32} {av : List Value} : FrameBlind (va_Pc av (kPreY D tys sz b L xs)) := fun a U g mk q => by
  obtain ⟨q0, q1, q2, q3⟩ := q
  exact ⟨q0, (kblind (av := av) a U g mk ⟨q0, q1⟩).2, va_X.moved (u := U) (Vm.Alike.refl U.vm) q2, q3⟩
theorem kpreY {s : State} {H : Heap} {locs : List Loc} {D : va_G} {tys : List (ClassId × FieldType)} {ws : va_W} {A : Nat → Prop} {b L : Nat} {xs : Nat → Int32} (hK : va_K D vwCl tys s) (hP : va_P D vwCl ws H) (hD : va_D A ws) (hS : va_S A s.heap H locs) (hX : va_X b L xs s s.heap) (hbl : b < s.heap.size) (hbA : ¬ A b) {As : List Value} : PreS s H (va_Pc As (kPreY D tys H.size b L xs)) As :=
  ⟨kblindY, fun U hU hW => ⟨rfl, ((kpreS hK hP hD [] rfl (pre := []) rfl (As := As)).2 U hU hW).2, by rw [hU]; exact (hX.kept (hS.2.1 b hbl hbA)).moved hW.alike, Nat.lt_of_lt_of_le hbl hS.1⟩⟩
theorem kOfWY {l : Launch} {y : MethodName} {ws ws' : List Cond} {rm : Room} {cc : ByteArray} {maxL : Nat} {ret : Option FieldType} {D : va_G} {tys : List (ClassId × FieldType)} {av : List Value} {mc ms sz b9 L : Nat} {xs : Nat → Int32} (Qk : (Nat → Prop) → Array Value → State → Outcome → State → Prop)
    (hy : plainName y.cls = true) (hw : ws = Cond.code y cc maxL ret :: ws') (hsl : (lg_sl av).length ≤ maxL)
    (body : ∀ (p : Program) (e : Env) (s : State) (m : MethodId) (below : List Frame) (meth : Method) (c : Code) (A : Nat → Prop) (ls : Array Slot), p.tables.exec = Jvm.exec → c.code = cc → meth.sig.returnType = ret → c.maxLocals = maxL → (∀ w ∈ ws, w.before av.toArray s = true) → s.vm.findClass y.cls = some m.cls → meth.locks = false → ¬ A b9 → va_P D vwCl [] s.heap → va_K D vwCl tys s → va_D A [] → va_X b9 L xs s s.heap → b9 < s.heap.size → lv_has ls maxL (lv_args 0 av) → W p l e rm s m av.toArray below meth c s.heap [] 0 0 (MQ below (Qk A) av.toArray s mc ms A) (F0 m 0 ls [])) :
    Met l y ws rm (va_Pc av (kPreY D tys sz b9 L xs)) (Qk (va_A [] sz)) mc ms (va_A [] sz) := by
  refine Met.ofW (cc := cc) (maxL := maxL) (ret := ret) hy hw ?_
  intro p e s m args below meth c s₁ B hml hv
  obtain ⟨rfl, ⟨hsz, hP, hK, hD0⟩, hX, hbz⟩ := hv
  have hl := lv_entry av (n := maxL) hsl
  rw [lg_entry_eq]
  exact body p e s m below meth c (va_A [] sz) _ B.exec B.bytes B.returns hml (atoms_spec (ws := ws) B.pre) (findClass_of_methodNamed B.named) B.notSynchronized (fun h => h.elim (fun z => by obtain ⟨k, e, z⟩ := z; simp at z) (fun z => by omega)) hP hK hD0.self hX (by rw [hsz]; exact hbz) hl
set_option maxHeartbeats 4000000 in
set_option maxRecDepth 100000 in
theorem c_L_cell (l : Launch) (D : va_G) (cI cZ cJ : ClassId) (sz b9 L k : Nat) (xs : Nat → Int32) (hk : k < 1000) (hL : L ≤ 260) : Met l yL_cell wsL_cell ({ frames := 0, cells := 0, slots := 0, locals := 0 }) (va_Pc [.ref b9, .int (nI k)] (kPreY D (tyA cI cZ cJ) sz b9 L xs)) (va_Qi (fun (_ : Int32) (_ : Unit) => True) (kPost D (tyA cI cZ cJ) (va_A [] sz) (fun (_ : Unit) => [])) (va_A [] sz)) 0 0 (va_A [] sz) := by
  refine kOfWY (cc := cL_cell) (maxL := 2) (ret := (some .int)) (fun A => va_Qi (fun (_ : Int32) (_ : Unit) => True) (kPost D (tyA cI cZ cJ) A (fun (_ : Unit) => [])) A) (by decide) rfl (Nat.le_of_ble_eq_true rfl) ?_
  intro p_ e_ s m_ below_ meth_ c_ A ls hx hb hr hml hts hown hlocks hbA hP hK hD hX hbl hl
  have hS : va_S A s.heap s.heap [] := va_S.rf
  have hl : lv_has ls 2 [(0, .ref b9), (1, .int (nI k))] := hl
  refine lv_iload_n hx hb dL_cell_0 rfl (lv_at hl 1 rfl) ?_
  refine lv_aload_n hx hb dL_cell_1 rfl (lv_at hl 0 rfl) ?_
  refine va_slen hx hb hX hbl hbA hS dL_cell_2 ?_
  refine lv_icmp_ge (tgt := 12) hx hb dL_cell_3 (by decide) (fun c3 => ?_) (fun c3 => ?_)
  · refine lv_ldc (v := (50423)) hx hb hown (hts (.constant RL 7 (50423)) (by decide +kernel)) dL_cell_12 ?_
    refine lv_iload_n hx hb dL_cell_14 rfl (lv_at hl 1 rfl) ?_
    refine lv_bipush (v := nI 27) hx hb dL_cell_15 (by decide) ?_
    refine lv_iadd hx hb dL_cell_17 ?_
    refine lv_imul hx hb dL_cell_18 ?_
    refine lv_ldc (v := (2408873)) hx hb hown (hts (.constant RL 8 (2408873)) (by decide +kernel)) dL_cell_19 ?_
    refine lv_iadd hx hb dL_cell_21 ?_
    exact kri hx hb hr hlocks hP hK hD hS () trivial [] rfl rfl dL_cell_22
  · have c3 := knle (a := L) (b := k) c3 (by omega) (by omega)
    refine lv_aload_n hx hb dL_cell_6 rfl (lv_at hl 0 rfl) ?_
    refine lv_iload_n hx hb dL_cell_7 rfl (lv_at hl 1 rfl) ?_
    refine va_sld hx hb hX hbl hbA hS (vp_in_nI (n := k) (by omega) (by omega)) dL_cell_8 ?_
    refine lv_goto (tgt := 22) hx hb dL_cell_9 (by decide) ?_
    exact kri hx hb hr hlocks hP hK hD hS () trivial [] rfl rfl dL_cell_22

set_option maxHeartbeats 4000000 in
set_option maxRecDepth 100000 in
theorem c_L_median (l : Launch) (D : va_G) (cI cZ cJ : ClassId) (sz : Nat) (a0 a1 : Nat) (av hf : Nat → Int32) (a b q m : Nat) (hm : ∀ i, i < m ↔ a + q * i < b) (hq1 : 1 ≤ q) (hq2 : q ≤ 12) (ha60 : a ≤ 60) (hb60 : b ≤ 60) (hm60 : m ≤ 60) (hbit : ∀ k, kbit (hf k)) : Met l yL_median wsL_median ({ frames := 0, cells := 0, slots := 0, locals := 0 }) (va_Pc [.ref a0, .ref a1, .int (nI a), .int (nI b), .int (nI q)] (kPre D (tyA cI cZ cJ) sz [(a0, .inl (cI, 60, .inl av)), (a1, .inl (cI, 60, .inl hf))])) (va_Qi (fun (r : Int32) (_ : Unit) => r = kMed (kpk av hf a q m)) (kPost D (tyA cI cZ cJ) (va_A [(a0, .inl (cI, 60, .inl av)), (a1, .inl (cI, 60, .inl hf))] sz) (fun (_ : Unit) => [(a0, .inl (cI, 60, .inl av)), (a1, .inl (cI, 60, .inl hf))])) (va_A [(a0, .inl (cI, 60, .inl av)), (a1, .inl (cI, 60, .inl hf))] sz)) 0 0 (va_A [(a0, .inl (cI, 60, .inl av)), (a1, .inl (cI, 60, .inl hf))] sz) := by
  refine kOfW (cc := cL_median) (maxL := 10) (ret := (some .int)) (fun A => va_Qi (fun (r : Int32) (_ : Unit) => r = kMed (kpk av hf a q m)) (kPost D (tyA cI cZ cJ) (A) (fun (_ : Unit) => [(a0, .inl (cI, 60, .inl av)), (a1, .inl (cI, 60, .inl hf))])) (A)) (by decide) rfl (Nat.le_of_ble_eq_true rfl) ?_
  intro p_ e_ s m_ below_ meth_ c_ A ls hx hb hr hml hts hown hlocks hin hA hP hK hD hsz hl
  have hS : va_S A s.heap s.heap [] := va_S.rf
  have hl : lv_has ls 10 [(0, .ref a0), (1, .ref a1), (2, .int (nI a)), (3, .int (nI b)), (4, .int (nI q))] := hl
  refine lv_iconst (v := nI 0) hx hb dL_median_0 (by decide) ?_
  refine lv_istore (lv' := [(5, .int (nI 0)), (0, .ref a0), (1, .ref a1), (2, .int (nI a)), (3, .int (nI b)), (4, .int (nI q))]) hx hb dL_median_1 hl (by decide) rfl (fun ls hl => ?_)
  refine lv_iload_n hx hb dL_median_3 rfl (lv_at hl 3 rfl) ?_
  refine lv_istore (lv' := [(6, .int (nI a)), (5, .int (nI 0)), (0, .ref a0), (1, .ref a1), (2, .int (nI a)), (3, .int (nI b)), (4, .int (nI q))]) hx hb dL_median_4 hl (by decide) rfl (fun ls hl => ?_)
  refine wl_loop (fun (d9 : Nat) (H : Heap) (locs : List Loc) (ls : Array Slot) => ∃ (i : Nat), d9 = m - i ∧ (i ≤ m) ∧ (a + q * i ≤ 72) ∧ va_P D vwCl [(a0, .inl (cI, 60, .inl av)), (a1, .inl (cI, 60, .inl hf))] H ∧ va_D A [(a0, .inl (cI, 60, .inl av)), (a1, .inl (cI, 60, .inl hf))] ∧ va_S A s.heap H locs ∧ lv_has ls 10 [(6, .int (nI (a + q * i))), (5, .int (nI (kpk av hf a q i).length)), (0, .ref a0), (1, .ref a1), (2, .int (nI a)), (3, .int (nI b)), (4, .int (nI q))]) ?_ _ ⟨0, rfl, Nat.zero_le _, by omega, hP, hD, hS, lv_sub hl [0, 1, 2, 3, 4, 5, 6] rfl⟩
  rintro d_2 H locs ls ⟨i, hd_3, hi, hpi, hP, hD, hS, hl⟩ ih_1
  refine lv_iload hx hb dL_median_6 (lv_at hl 0 rfl) ?_
  refine lv_iload_n hx hb dL_median_8 rfl (lv_at hl 5 rfl) ?_
  refine lv_icmp_ge (tgt := 33) hx hb dL_median_9 (by decide) (fun c9 => ?_) (fun c9 => ?_)
  · skip
    have c9 := kle (a := b) (b := (a + q * i)) c9 (by omega) (by omega)
    have ei : i = m := by
      rcases Nat.lt_or_ge i m with z | z
      · have := (hm i).mp z
        omega
      · omega
    rw [ei] at hl
    refine lv_iload_n hx hb dL_median_33 rfl (lv_at hl 4 rfl) ?_
    refine lv_istore (lv' := [(6, .int (nI a)), (5, .int (nI (kpk av hf a q m).length)), (0, .ref a0), (1, .ref a1), (2, .int (nI a)), (3, .int (nI b)), (4, .int (nI q))]) hx hb dL_median_34 hl (by decide) rfl (fun ls hl => ?_)
    refine wl_loop (fun (d9 : Nat) (H : Heap) (locs : List Loc) (ls : Array Slot) => ∃ (i : Nat), d9 = m - i ∧ (i ≤ m) ∧ (a + q * i ≤ 72) ∧ (∀ j, j < i → hf (a + q * j) = 0 → kcl (av (a + q * j)) (kpk av hf a q m) ≤ ((kpk av hf a q m).length - 1) / 2 → ¬ ((kpk av hf a q m).length - 1) / 2 < kcl (av (a + q * j)) (kpk av hf a q m) + kce (av (a + q * j)) (kpk av hf a q m)) ∧ va_P D vwCl [(a0, .inl (cI, 60, .inl av)), (a1, .inl (cI, 60, .inl hf))] H ∧ va_D A [(a0, .inl (cI, 60, .inl av)), (a1, .inl (cI, 60, .inl hf))] ∧ va_S A s.heap H locs ∧ lv_has ls 10 [(6, .int (nI (a + q * i))), (5, .int (nI (kpk av hf a q m).length)), (0, .ref a0), (1, .ref a1), (2, .int (nI a)), (3, .int (nI b)), (4, .int (nI q))]) ?_ _ ⟨0, rfl, Nat.zero_le _, by omega, fun j q9 => absurd q9 (Nat.not_lt_zero j), hP, hD, hS, lv_sub hl [0, 1, 2, 3, 4, 5, 6] rfl⟩
    rintro d_5 H locs ls ⟨i, hd_6, hi, hpi, hno, hP, hD, hS, hl⟩ ih_4
    refine lv_iload hx hb dL_median_36 (lv_at hl 0 rfl) ?_
    refine lv_iload_n hx hb dL_median_38 rfl (lv_at hl 5 rfl) ?_
    refine lv_icmp_ge (tgt := 170) hx hb dL_median_39 (by decide) (fun c39 => ?_) (fun c39 => ?_)
    · skip
      have c39 := kle (a := b) (b := (a + q * i)) c39 (by omega) (by omega)
      have ei : i = m := by
        rcases Nat.lt_or_ge i m with z | z
        · have := (hm i).mp z
          omega
        · omega
      rw [ei] at hno
      refine lv_iconst (v := nI 0) hx hb dL_median_170 (by decide) ?_
      exact kri hx hb hr hlocks hP hK hD hS () ((kpick_none hno).symm) [0, 1] (by decide +kernel) rfl dL_median_171
    · skip
      have c39 := knle (a := b) (b := (a + q * i)) c39 (by omega) (by omega)
      refine lv_iconst (v := nI 0) hx hb dL_median_42 (by decide) ?_
      refine lv_istore (lv' := [(7, .int (nI 0)), (6, .int (nI (a + q * i))), (5, .int (nI (kpk av hf a q m).length)), (0, .ref a0), (1, .ref a1), (2, .int (nI a)), (3, .int (nI b)), (4, .int (nI q))]) hx hb dL_median_43 hl (by decide) rfl (fun ls hl => ?_)
      refine lv_iconst (v := nI 0) hx hb dL_median_45 (by decide) ?_
      refine lv_istore (lv' := [(8, .int (nI 0)), (7, .int (nI 0)), (6, .int (nI (a + q * i))), (5, .int (nI (kpk av hf a q m).length)), (0, .ref a0), (1, .ref a1), (2, .int (nI a)), (3, .int (nI b)), (4, .int (nI q))]) hx hb dL_median_46 hl (by decide) rfl (fun ls hl => ?_)
      refine lv_iload_n hx hb dL_median_48 rfl (lv_at hl 6 rfl) ?_
      refine lv_istore (lv' := [(9, .int (nI a)), (8, .int (nI 0)), (7, .int (nI 0)), (6, .int (nI (a + q * i))), (5, .int (nI (kpk av hf a q m).length)), (0, .ref a0), (1, .ref a1), (2, .int (nI a)), (3, .int (nI b)), (4, .int (nI q))]) hx hb dL_median_49 hl (by decide) rfl (fun ls hl => ?_)
      refine wl_loop (fun (d9 : Nat) (H : Heap) (locs : List Loc) (ls : Array Slot) => ∃ (j : Nat), d9 = m - j ∧ (j ≤ m) ∧ (a + q * j ≤ 72) ∧ va_P D vwCl [(a0, .inl (cI, 60, .inl av)), (a1, .inl (cI, 60, .inl hf))] H ∧ va_D A [(a0, .inl (cI, 60, .inl av)), (a1, .inl (cI, 60, .inl hf))] ∧ va_S A s.heap H locs ∧ lv_has ls 10 [(9, .int (nI (a + q * j))), (8, .int (nI (kce (av (a + q * i)) (kpk av hf a q j)))), (7, .int (nI (kcl (av (a + q * i)) (kpk av hf a q j)))), (6, .int (nI (a + q * i))), (5, .int (nI (kpk av hf a q m).length)), (0, .ref a0), (1, .ref a1), (2, .int (nI a)), (3, .int (nI b)), (4, .int (nI q))]) ?_ _ ⟨0, rfl, Nat.zero_le _, by omega, hP, hD, hS, lv_sub hl [0, 1, 2, 3, 4, 5, 6, 7, 8, 9] rfl⟩
      rintro d_8 H locs ls ⟨j, hd_9, hj, hpj, hP, hD, hS, hl⟩ ih_7
      refine lv_iload hx hb dL_median_51 (lv_at hl 0 rfl) ?_
      refine lv_iload_n hx hb dL_median_53 rfl (lv_at hl 8 rfl) ?_
      refine lv_icmp_ge (tgt := 123) hx hb dL_median_54 (by decide) (fun c54 => ?_) (fun c54 => ?_)
      · skip
        have c54 := kle (a := b) (b := (a + q * j)) c54 (by omega) (by omega)
        have ej : j = m := by
          rcases Nat.lt_or_ge j m with z | z
          · have := (hm j).mp z
            omega
          · omega
        rw [ej] at hl
        have hcl := kcl_len (av (a + q * i)) (kpk av hf a q m)
        have hlen := kpk_len av hf a q m
        refine lv_aload_n hx hb dL_median_123 rfl (lv_at hl 6 rfl) ?_
        refine lv_iload hx hb dL_median_124 (lv_at hl 3 rfl) ?_
        refine va_iald (D := D) hx hb hK hP 1 0 rfl rfl (vp_in_nI (by omega) (by decide)) dL_median_126 ?_
        refine wt_i (by rw [nI_clamp (n := (a + q * i)) (by omega)]) ?_
        refine lv_if_ne (tgt := 160) hx hb dL_median_127 (by decide) (fun c127 => ?_) (fun c127 => ?_)
        · skip
          refine lv_iload hx hb dL_median_160 (lv_at hl 3 rfl) ?_
          refine lv_iload hx hb dL_median_162 (lv_at hl 9 rfl) ?_
          refine lv_iadd hx hb dL_median_164 ?_
          refine wt_i (y := nI (a + q * (i + 1))) (knext a q i) ?_
          refine lv_istore (lv' := [(6, .int (nI (a + q * (i + 1)))), (9, .int (nI (a + q * m))), (8, .int (nI (kce (av (a + q * i)) (kpk av hf a q m)))), (7, .int (nI (kcl (av (a + q * i)) (kpk av hf a q m)))), (5, .int (nI (kpk av hf a q m).length)), (0, .ref a0), (1, .ref a1), (2, .int (nI a)), (3, .int (nI b)), (4, .int (nI q))]) hx hb dL_median_165 hl (by decide) rfl (fun ls hl => ?_)
          refine lv_goto (tgt := 36) hx hb dL_median_167 (by decide) ?_
          have him : i < m := (hm i).mpr c39
          have hno2 : ∀ j, j < i + 1 → hf (a + q * j) = 0 → kcl (av (a + q * j)) (kpk av hf a q m) ≤ ((kpk av hf a q m).length - 1) / 2 → ¬ ((kpk av hf a q m).length - 1) / 2 < kcl (av (a + q * j)) (kpk av hf a q m) + kce (av (a + q * j)) (kpk av hf a q m) := fun j hj h0 h1 h2 => by
            rcases Nat.eq_or_lt_of_le (Nat.le_of_lt_succ hj) with z | z
            · rw [z] at h0 h1 h2
              first | exact absurd h0 c127 | omega
            · exact hno j z h0 h1 h2
          exact ih_4 _ (by omega) _ _ _ ⟨(i + 1), rfl, Nat.succ_le_of_lt him, by rw [Nat.mul_add, Nat.mul_one]; omega, hno2, hP, hD, hS, lv_sub hl [0, 4, 5, 6, 7, 8, 9] rfl⟩
        · skip
          refine lv_iload hx hb dL_median_130 (lv_at hl 2 rfl) ?_
          refine lv_iload hx hb dL_median_132 (lv_at hl 4 rfl) ?_
          refine lv_iconst (v := nI 1) hx hb dL_median_134 (by decide) ?_
          refine lv_isub hx hb dL_median_135 ?_
          refine wt_i (y := (nI (kpk av hf a q m).length - nI 1)) (rfl) ?_
          refine lv_iconst (v := nI 2) hx hb dL_median_136 (by decide) ?_
          refine lv_idiv hx hb dL_median_137 (by decide) ?_
          refine wt_i (y := nI (((kpk av hf a q m).length - 1) / 2)) (khalf (by omega)) ?_
          refine lv_icmp_gt (tgt := 160) hx hb dL_median_138 (by decide) (fun c138 => ?_) (fun c138 => ?_)
          · skip
            have c138 := klt (a := (((kpk av hf a q m).length - 1) / 2)) (b := (kcl (av (a + q * i)) (kpk av hf a q m))) c138 (by omega) (by omega)
            refine lv_iload hx hb dL_median_160 (lv_at hl 3 rfl) ?_
            refine lv_iload hx hb dL_median_162 (lv_at hl 9 rfl) ?_
            refine lv_iadd hx hb dL_median_164 ?_
            refine wt_i (y := nI (a + q * (i + 1))) (knext a q i) ?_
            refine lv_istore (lv' := [(6, .int (nI (a + q * (i + 1)))), (9, .int (nI (a + q * m))), (8, .int (nI (kce (av (a + q * i)) (kpk av hf a q m)))), (7, .int (nI (kcl (av (a + q * i)) (kpk av hf a q m)))), (5, .int (nI (kpk av hf a q m).length)), (0, .ref a0), (1, .ref a1), (2, .int (nI a)), (3, .int (nI b)), (4, .int (nI q))]) hx hb dL_median_165 hl (by decide) rfl (fun ls hl => ?_)
            refine lv_goto (tgt := 36) hx hb dL_median_167 (by decide) ?_
            have him : i < m := (hm i).mpr c39
            have hno2 : ∀ j, j < i + 1 → hf (a + q * j) = 0 → kcl (av (a + q * j)) (kpk av hf a q m) ≤ ((kpk av hf a q m).length - 1) / 2 → ¬ ((kpk av hf a q m).length - 1) / 2 < kcl (av (a + q * j)) (kpk av hf a q m) + kce (av (a + q * j)) (kpk av hf a q m) := fun j hj h0 h1 h2 => by
              rcases Nat.eq_or_lt_of_le (Nat.le_of_lt_succ hj) with z | z
              · rw [z] at h0 h1 h2
                first | exact absurd h0 c127 | omega
              · exact hno j z h0 h1 h2
            exact ih_4 _ (by omega) _ _ _ ⟨(i + 1), rfl, Nat.succ_le_of_lt him, by rw [Nat.mul_add, Nat.mul_one]; omega, hno2, hP, hD, hS, lv_sub hl [0, 4, 5, 6, 7, 8, 9] rfl⟩
          · skip
            have c138 := knlt (a := (((kpk av hf a q m).length - 1) / 2)) (b := (kcl (av (a + q * i)) (kpk av hf a q m))) c138 (by omega) (by omega)
            refine lv_iload hx hb dL_median_141 (lv_at hl 4 rfl) ?_
            refine lv_iconst (v := nI 1) hx hb dL_median_143 (by decide) ?_
            refine lv_isub hx hb dL_median_144 ?_
            refine wt_i (y := (nI (kpk av hf a q m).length - nI 1)) (rfl) ?_
            refine lv_iconst (v := nI 2) hx hb dL_median_145 (by decide) ?_
            refine lv_idiv hx hb dL_median_146 (by decide) ?_
            refine wt_i (y := nI (((kpk av hf a q m).length - 1) / 2)) (khalf (by omega)) ?_
            refine lv_iload hx hb dL_median_147 (lv_at hl 2 rfl) ?_
            refine lv_iload hx hb dL_median_149 (lv_at hl 1 rfl) ?_
            refine lv_iadd hx hb dL_median_151 ?_
            refine wt_i (nI_add _ _) ?_
            refine lv_icmp_ge (tgt := 160) hx hb dL_median_152 (by decide) (fun c152 => ?_) (fun c152 => ?_)
            · skip
              have c152 := kle (a := ((kcl (av (a + q * i)) (kpk av hf a q m)) + (kce (av (a + q * i)) (kpk av hf a q m)))) (b := (((kpk av hf a q m).length - 1) / 2)) c152 (by omega) (by omega)
              refine lv_iload hx hb dL_median_160 (lv_at hl 3 rfl) ?_
              refine lv_iload hx hb dL_median_162 (lv_at hl 9 rfl) ?_
              refine lv_iadd hx hb dL_median_164 ?_
              refine wt_i (y := nI (a + q * (i + 1))) (knext a q i) ?_
              refine lv_istore (lv' := [(6, .int (nI (a + q * (i + 1)))), (9, .int (nI (a + q * m))), (8, .int (nI (kce (av (a + q * i)) (kpk av hf a q m)))), (7, .int (nI (kcl (av (a + q * i)) (kpk av hf a q m)))), (5, .int (nI (kpk av hf a q m).length)), (0, .ref a0), (1, .ref a1), (2, .int (nI a)), (3, .int (nI b)), (4, .int (nI q))]) hx hb dL_median_165 hl (by decide) rfl (fun ls hl => ?_)
              refine lv_goto (tgt := 36) hx hb dL_median_167 (by decide) ?_
              have him : i < m := (hm i).mpr c39
              have hno2 : ∀ j, j < i + 1 → hf (a + q * j) = 0 → kcl (av (a + q * j)) (kpk av hf a q m) ≤ ((kpk av hf a q m).length - 1) / 2 → ¬ ((kpk av hf a q m).length - 1) / 2 < kcl (av (a + q * j)) (kpk av hf a q m) + kce (av (a + q * j)) (kpk av hf a q m) := fun j hj h0 h1 h2 => by
                rcases Nat.eq_or_lt_of_le (Nat.le_of_lt_succ hj) with z | z
                · rw [z] at h0 h1 h2
                  first | exact absurd h0 c127 | omega
                · exact hno j z h0 h1 h2
              exact ih_4 _ (by omega) _ _ _ ⟨(i + 1), rfl, Nat.succ_le_of_lt him, by rw [Nat.mul_add, Nat.mul_one]; omega, hno2, hP, hD, hS, lv_sub hl [0, 4, 5, 6, 7, 8, 9] rfl⟩
            · skip
              have c152 := knle (a := ((kcl (av (a + q * i)) (kpk av hf a q m)) + (kce (av (a + q * i)) (kpk av hf a q m)))) (b := (((kpk av hf a q m).length - 1) / 2)) c152 (by omega) (by omega)
              refine lv_aload_n hx hb dL_median_155 rfl (lv_at hl 5 rfl) ?_
              refine lv_iload hx hb dL_median_156 (lv_at hl 3 rfl) ?_
              refine va_iald (D := D) hx hb hK hP 0 0 rfl rfl (vp_in_nI (by omega) (by decide)) dL_median_158 ?_
              refine wt_i (by rw [nI_clamp (n := (a + q * i)) (by omega)]) ?_
              exact kri hx hb hr hlocks hP hK hD hS () ((kpick c138 c152).symm) [0, 1] (by decide +kernel) rfl dL_median_159
      · skip
        have c54 := knle (a := b) (b := (a + q * j)) c54 (by omega) (by omega)
        refine wl_join (pc2 := 82) (fun (stk : List Value) (H : Heap) (locs : List Loc) (ls : Array Slot) => ∃ (d1 : Nat), stk = [.int (nI d1), .int (nI (kcl (av (a + q * i)) (kpk av hf a q j)))] ∧ (d1 = if hf (a + q * j) = 0 ∧ av (a + q * j) < av (a + q * i) then 1 else 0) ∧ va_P D vwCl [(a0, .inl (cI, 60, .inl av)), (a1, .inl (cI, 60, .inl hf))] H ∧ va_D A [(a0, .inl (cI, 60, .inl av)), (a1, .inl (cI, 60, .inl hf))] ∧ va_S A s.heap H locs ∧ lv_has ls 10 [(9, .int (nI (a + q * j))), (8, .int (nI (kce (av (a + q * i)) (kpk av hf a q j)))), (7, .int (nI (kcl (av (a + q * i)) (kpk av hf a q j)))), (6, .int (nI (a + q * i))), (5, .int (nI (kpk av hf a q m).length)), (0, .ref a0), (1, .ref a1), (2, .int (nI a)), (3, .int (nI b)), (4, .int (nI q))]) ?_ (fun j_10 => ?_)
        · skip
          rintro stk H locs ls ⟨d1, rfl, hd1, hP, hD, hS, hl⟩
          refine lv_iadd hx hb dL_median_82 ?_
          refine wt_i (y := nI (kcl (av (a + q * i)) (kpk av hf a q (j + 1)))) (by rw [nI_add, kpk_below hd1]) ?_
          refine lv_istore (lv' := [(7, .int (nI (kcl (av (a + q * i)) (kpk av hf a q (j + 1))))), (9, .int (nI (a + q * j))), (8, .int (nI (kce (av (a + q * i)) (kpk av hf a q j)))), (6, .int (nI (a + q * i))), (5, .int (nI (kpk av hf a q m).length)), (0, .ref a0), (1, .ref a1), (2, .int (nI a)), (3, .int (nI b)), (4, .int (nI q))]) hx hb dL_median_83 hl (by decide) rfl (fun ls hl => ?_)
          refine wl_join (pc2 := 110) (fun (stk : List Value) (H : Heap) (locs : List Loc) (ls : Array Slot) => ∃ (d2 : Nat), stk = [.int (nI d2), .int (nI (kce (av (a + q * i)) (kpk av hf a q j)))] ∧ (d2 = if hf (a + q * j) = 0 ∧ av (a + q * j) = av (a + q * i) then 1 else 0) ∧ va_P D vwCl [(a0, .inl (cI, 60, .inl av)), (a1, .inl (cI, 60, .inl hf))] H ∧ va_D A [(a0, .inl (cI, 60, .inl av)), (a1, .inl (cI, 60, .inl hf))] ∧ va_S A s.heap H locs ∧ lv_has ls 10 [(7, .int (nI (kcl (av (a + q * i)) (kpk av hf a q (j + 1))))), (9, .int (nI (a + q * j))), (8, .int (nI (kce (av (a + q * i)) (kpk av hf a q j)))), (6, .int (nI (a + q * i))), (5, .int (nI (kpk av hf a q m).length)), (0, .ref a0), (1, .ref a1), (2, .int (nI a)), (3, .int (nI b)), (4, .int (nI q))]) ?_ (fun j_11 => ?_)
          · skip
            rintro stk H locs ls ⟨d2, rfl, hd2, hP, hD, hS, hl⟩
            refine lv_iadd hx hb dL_median_110 ?_
            refine wt_i (y := nI (kce (av (a + q * i)) (kpk av hf a q (j + 1)))) (by rw [nI_add, kpk_same hd2]) ?_
            refine lv_istore (lv' := [(8, .int (nI (kce (av (a + q * i)) (kpk av hf a q (j + 1))))), (7, .int (nI (kcl (av (a + q * i)) (kpk av hf a q (j + 1))))), (9, .int (nI (a + q * j))), (6, .int (nI (a + q * i))), (5, .int (nI (kpk av hf a q m).length)), (0, .ref a0), (1, .ref a1), (2, .int (nI a)), (3, .int (nI b)), (4, .int (nI q))]) hx hb dL_median_111 hl (by decide) rfl (fun ls hl => ?_)
            refine lv_iload hx hb dL_median_113 (lv_at hl 2 rfl) ?_
            refine lv_iload hx hb dL_median_115 (lv_at hl 9 rfl) ?_
            refine lv_iadd hx hb dL_median_117 ?_
            refine wt_i (y := nI (a + q * (j + 1))) (knext a q j) ?_
            refine lv_istore (lv' := [(9, .int (nI (a + q * (j + 1)))), (8, .int (nI (kce (av (a + q * i)) (kpk av hf a q (j + 1))))), (7, .int (nI (kcl (av (a + q * i)) (kpk av hf a q (j + 1))))), (6, .int (nI (a + q * i))), (5, .int (nI (kpk av hf a q m).length)), (0, .ref a0), (1, .ref a1), (2, .int (nI a)), (3, .int (nI b)), (4, .int (nI q))]) hx hb dL_median_118 hl (by decide) rfl (fun ls hl => ?_)
            refine lv_goto (tgt := 51) hx hb dL_median_120 (by decide) ?_
            have hjm : j < m := (hm j).mpr c54
            exact ih_7 _ (by omega) _ _ _ ⟨(j + 1), rfl, Nat.succ_le_of_lt hjm, by rw [Nat.mul_add, Nat.mul_one]; omega, hP, hD, hS, lv_sub hl [0, 1, 2, 3, 4, 5, 6, 7, 8, 9] rfl⟩
          refine lv_iload hx hb dL_median_85 (lv_at hl 2 rfl) ?_
          refine lv_aload_n hx hb dL_median_87 rfl (lv_at hl 6 rfl) ?_
          refine lv_iload hx hb dL_median_88 (lv_at hl 1 rfl) ?_
          refine va_iald (D := D) hx hb hK hP 1 0 rfl rfl (vp_in_nI (by omega) (by decide)) dL_median_90 ?_
          refine wt_i (by rw [nI_clamp (n := (a + q * j)) (by omega)]) ?_
          refine lv_if_ne (tgt := 109) hx hb dL_median_91 (by decide) (fun c91 => ?_) (fun c91 => ?_)
          · skip
            refine lv_iconst (v := nI 0) hx hb dL_median_109 (by decide) ?_
            exact j_11 _ _ _ _ ⟨0, rfl, by first | exact (if_neg (fun z => c91 z.1)).symm | exact (if_neg (fun z => c102 z.2)).symm, hP, hD, hS, lv_sub hl [0, 1, 2, 3, 4, 5, 6, 7, 8, 9] rfl⟩
          · skip
            refine lv_aload_n hx hb dL_median_94 rfl (lv_at hl 5 rfl) ?_
            refine lv_iload hx hb dL_median_95 (lv_at hl 1 rfl) ?_
            refine va_iald (D := D) hx hb hK hP 0 0 rfl rfl (vp_in_nI (by omega) (by decide)) dL_median_97 ?_
            refine wt_i (by rw [nI_clamp (n := (a + q * j)) (by omega)]) ?_
            refine lv_aload_n hx hb dL_median_98 rfl (lv_at hl 5 rfl) ?_
            refine lv_iload hx hb dL_median_99 (lv_at hl 3 rfl) ?_
            refine va_iald (D := D) hx hb hK hP 0 0 rfl rfl (vp_in_nI (by omega) (by decide)) dL_median_101 ?_
            refine wt_i (by rw [nI_clamp (n := (a + q * i)) (by omega)]) ?_
            refine lv_icmp_ne (tgt := 109) hx hb dL_median_102 (by decide) (fun c102 => ?_) (fun c102 => ?_)
            · skip
              refine lv_iconst (v := nI 0) hx hb dL_median_109 (by decide) ?_
              exact j_11 _ _ _ _ ⟨0, rfl, by first | exact (if_neg (fun z => c91 z.1)).symm | exact (if_neg (fun z => c102 z.2)).symm, hP, hD, hS, lv_sub hl [0, 1, 2, 3, 4, 5, 6, 7, 8, 9] rfl⟩
            · skip
              refine lv_iconst (v := nI 1) hx hb dL_median_105 (by decide) ?_
              refine lv_goto (tgt := 110) hx hb dL_median_106 (by decide) ?_
              exact j_11 _ _ _ _ ⟨1, rfl, (if_pos ⟨c91, c102⟩).symm, hP, hD, hS, lv_sub hl [0, 1, 2, 3, 4, 5, 6, 7, 8, 9] rfl⟩
        refine lv_iload hx hb dL_median_57 (lv_at hl 2 rfl) ?_
        refine lv_aload_n hx hb dL_median_59 rfl (lv_at hl 6 rfl) ?_
        refine lv_iload hx hb dL_median_60 (lv_at hl 0 rfl) ?_
        refine va_iald (D := D) hx hb hK hP 1 0 rfl rfl (vp_in_nI (by omega) (by decide)) dL_median_62 ?_
        refine wt_i (by rw [nI_clamp (n := (a + q * j)) (by omega)]) ?_
        refine lv_if_ne (tgt := 81) hx hb dL_median_63 (by decide) (fun c63 => ?_) (fun c63 => ?_)
        · skip
          refine lv_iconst (v := nI 0) hx hb dL_median_81 (by decide) ?_
          exact j_10 _ _ _ _ ⟨0, rfl, by first | exact (if_neg (fun z => c63 z.1)).symm | exact (if_neg (fun z => Int32.not_lt.mpr c74 z.2)).symm, hP, hD, hS, lv_sub hl [0, 1, 2, 3, 4, 5, 6, 7, 8, 9] rfl⟩
        · skip
          refine lv_aload_n hx hb dL_median_66 rfl (lv_at hl 5 rfl) ?_
          refine lv_iload hx hb dL_median_67 (lv_at hl 0 rfl) ?_
          refine va_iald (D := D) hx hb hK hP 0 0 rfl rfl (vp_in_nI (by omega) (by decide)) dL_median_69 ?_
          refine wt_i (by rw [nI_clamp (n := (a + q * j)) (by omega)]) ?_
          refine lv_aload_n hx hb dL_median_70 rfl (lv_at hl 5 rfl) ?_
          refine lv_iload hx hb dL_median_71 (lv_at hl 3 rfl) ?_
          refine va_iald (D := D) hx hb hK hP 0 0 rfl rfl (vp_in_nI (by omega) (by decide)) dL_median_73 ?_
          refine wt_i (by rw [nI_clamp (n := (a + q * i)) (by omega)]) ?_
          refine lv_icmp_ge (tgt := 81) hx hb dL_median_74 (by decide) (fun c74 => ?_) (fun c74 => ?_)
          · skip
            refine lv_iconst (v := nI 0) hx hb dL_median_81 (by decide) ?_
            exact j_10 _ _ _ _ ⟨0, rfl, by first | exact (if_neg (fun z => c63 z.1)).symm | exact (if_neg (fun z => Int32.not_lt.mpr c74 z.2)).symm, hP, hD, hS, lv_sub hl [0, 1, 2, 3, 4, 5, 6, 7, 8, 9] rfl⟩
          · skip
            refine lv_iconst (v := nI 1) hx hb dL_median_77 (by decide) ?_
            refine lv_goto (tgt := 82) hx hb dL_median_78 (by decide) ?_
            exact j_10 _ _ _ _ ⟨1, rfl, (if_pos ⟨c63, Int32.not_le.mp c74⟩).symm, hP, hD, hS, lv_sub hl [0, 1, 2, 3, 4, 5, 6, 7, 8, 9] rfl⟩
  · skip
    have c9 := knle (a := b) (b := (a + q * i)) c9 (by omega) (by omega)
    refine lv_iload hx hb dL_median_12 (lv_at hl 1 rfl) ?_
    refine lv_iconst (v := nI 1) hx hb dL_median_14 (by decide) ?_
    refine lv_aload_n hx hb dL_median_15 rfl (lv_at hl 3 rfl) ?_
    refine lv_iload hx hb dL_median_16 (lv_at hl 0 rfl) ?_
    refine va_iald (D := D) hx hb hK hP 1 0 rfl rfl (vp_in_nI (by omega) (by decide)) dL_median_18 ?_
    refine wt_i (by rw [nI_clamp (n := (a + q * i)) (by omega)]) ?_
    refine lv_isub hx hb dL_median_19 ?_
    refine lv_iadd hx hb dL_median_20 ?_
    refine wt_i (y := nI (kpk av hf a q (i + 1)).length) (kpk_cnt (hbit _)) ?_
    refine lv_istore (lv' := [(5, .int (nI (kpk av hf a q (i + 1)).length)), (6, .int (nI (a + q * i))), (0, .ref a0), (1, .ref a1), (2, .int (nI a)), (3, .int (nI b)), (4, .int (nI q))]) hx hb dL_median_21 hl (by decide) rfl (fun ls hl => ?_)
    refine lv_iload hx hb dL_median_23 (lv_at hl 1 rfl) ?_
    refine lv_iload hx hb dL_median_25 (lv_at hl 6 rfl) ?_
    refine lv_iadd hx hb dL_median_27 ?_
    refine wt_i (y := nI (a + q * (i + 1))) (knext a q i) ?_
    refine lv_istore (lv' := [(6, .int (nI (a + q * (i + 1)))), (5, .int (nI (kpk av hf a q (i + 1)).length)), (0, .ref a0), (1, .ref a1), (2, .int (nI a)), (3, .int (nI b)), (4, .int (nI q))]) hx hb dL_median_28 hl (by decide) rfl (fun ls hl => ?_)
    refine lv_goto (tgt := 6) hx hb dL_median_30 (by decide) ?_
    have him : i < m := (hm i).mpr c9
    exact ih_1 _ (by omega) _ _ _ ⟨(i + 1), rfl, Nat.succ_le_of_lt him, by rw [Nat.mul_add, Nat.mul_one]; omega, hP, hD, hS, lv_sub hl [0, 1, 2, 3, 4, 5, 6] rfl⟩

theorem c_L_median1 (l : Launch) (D : va_G) (cI cZ cJ : ClassId) (sz : Nat) (a0 a1 : Nat) (av hf : Nat → Int32) (a b : Nat) (ha60 : a ≤ 60) (hb60 : b ≤ 60) (hbit : ∀ k, kbit (hf k)) : Met l yL_median wsL_median ({ frames := 0, cells := 0, slots := 0, locals := 0 }) (va_Pc [.ref a0, .ref a1, .int (nI a), .int (nI b), .int (nI 1)] (kPre D (tyA cI cZ cJ) sz [(a0, .inl (cI, 60, .inl av)), (a1, .inl (cI, 60, .inl hf))])) (va_Qi (fun (r : Int32) (_ : Unit) => r = kMed (kseg av hf a b)) (kPost D (tyA cI cZ cJ) (va_A [(a0, .inl (cI, 60, .inl av)), (a1, .inl (cI, 60, .inl hf))] sz) (fun (_ : Unit) => [(a0, .inl (cI, 60, .inl av)), (a1, .inl (cI, 60, .inl hf))])) (va_A [(a0, .inl (cI, 60, .inl av)), (a1, .inl (cI, 60, .inl hf))] sz)) 0 0 (va_A [(a0, .inl (cI, 60, .inl av)), (a1, .inl (cI, 60, .inl hf))] sz) := by
  have h := c_L_median l D cI cZ cJ sz a0 a1 av hf a b 1 (b - a) (fun i => by omega) (by omega) (by omega) ha60 hb60 (by omega) hbit
  rw [kpk_seg] at h
  exact h

set_option maxHeartbeats 4000000 in
set_option maxRecDepth 100000 in
theorem c_L_cost (l : Launch) (D : va_G) (cI cZ cJ : ClassId) (sz : Nat) (a0 a1 : Nat) (av hf : Nat → Int32) (a b : Nat) (hab : a ≤ b) (hb60 : b ≤ 60) (hbit : ∀ k, kbit (hf k)) (hav : ∀ k, k < b → kIn 30000 (av k)) : Met l yL_cost wsL_cost ({ frames := 1, cells := 0, slots := 0, locals := 40 }) (va_Pc [.ref a0, .ref a1, .int (nI a), .int (nI b)] (kPre D (tyA cI cZ cJ) sz [(a0, .inl (cI, 60, .inl av)), (a1, .inl (cI, 60, .inl hf))])) (va_Qi (fun (r : Int32) (_ : Unit) => r = kCost av hf a b) (kPost D (tyA cI cZ cJ) (va_A [(a0, .inl (cI, 60, .inl av)), (a1, .inl (cI, 60, .inl hf))] sz) (fun (_ : Unit) => [(a0, .inl (cI, 60, .inl av)), (a1, .inl (cI, 60, .inl hf))])) (va_A [(a0, .inl (cI, 60, .inl av)), (a1, .inl (cI, 60, .inl hf))] sz)) 0 0 (va_A [(a0, .inl (cI, 60, .inl av)), (a1, .inl (cI, 60, .inl hf))] sz) := by
  refine kOfW (cc := cL_cost) (maxL := 7) (ret := (some .int)) (fun A => va_Qi (fun (r : Int32) (_ : Unit) => r = kCost av hf a b) (kPost D (tyA cI cZ cJ) (A) (fun (_ : Unit) => [(a0, .inl (cI, 60, .inl av)), (a1, .inl (cI, 60, .inl hf))])) (A)) (by decide) rfl (Nat.le_of_ble_eq_true rfl) ?_
  intro p_ e_ s m_ below_ meth_ c_ A ls hx hb hr hml hts hown hlocks hin hA hP hK hD hsz hl
  have hS : va_S A s.heap s.heap [] := va_S.rf
  have hl : lv_has ls 7 [(0, .ref a0), (1, .ref a1), (2, .int (nI a)), (3, .int (nI b))] := hl
  refine lv_aload_n hx hb dL_cost_0 rfl (lv_at hl 0 rfl) ?_
  refine lv_aload_n hx hb dL_cost_1 rfl (lv_at hl 1 rfl) ?_
  refine lv_iload_n hx hb dL_cost_2 rfl (lv_at hl 2 rfl) ?_
  refine lv_iload_n hx hb dL_cost_3 rfl (lv_at hl 3 rfl) ?_
  refine lv_iconst (v := nI 1) hx hb dL_cost_4 (by decide) ?_
  refine kci (wr := []) (pre := [(a0, .inl (cI, 60, .inl av)), (a1, .inl (cI, 60, .inl hf))]) (va_runS (As := [.ref a0, .ref a1, .int (nI a), .int (nI b), .int (nI 1)]) (rest := []) ⟨hx, hb, hml, hown, hts⟩ (c_L_median1 l D cI cZ cJ s.heap.size a0 a1 av hf a b (by first | assumption | omega) (by first | assumption | omega) (by first | assumption | omega)) (va_cwS 5 hts gL_cost_L_median rfl rfl rfl (by decide +kernel) ⟨Nat.le_of_ble_eq_true rfl, Nat.le_of_ble_eq_true rfl⟩) (kpreS hK hP hD [0, 1] (by decide +kernel) rfl) rfl rfl hl.1 rfl (lv_room (Nat.le_of_ble_eq_true rfl)) dL_cost_5 ⟨Nat.zero_le _, Nat.zero_le _⟩) hP hD hS hA [0, 1] [] rfl rfl (by decide +kernel) (by decide +kernel) (fun r_1 _ H locs hw hP hD hS => ?_)
  have hP : va_P D vwCl [(a0, .inl (cI, 60, .inl av)), (a1, .inl (cI, 60, .inl hf))] H := hP
  have hD : va_D A [(a0, .inl (cI, 60, .inl av)), (a1, .inl (cI, 60, .inl hf))] := hD
  have hr9 : r_1 = kMed (kseg av hf a b) := hw
  refine wt_i hr9 ?_
  refine wt_i (y := kLev av hf a b) (rfl) ?_
  refine lv_istore (lv' := [(4, .int (kLev av hf a b)), (0, .ref a0), (1, .ref a1), (2, .int (nI a)), (3, .int (nI b))]) hx hb dL_cost_8 hl (by decide) rfl (fun ls hl => ?_)
  refine lv_iconst (v := nI 0) hx hb dL_cost_10 (by decide) ?_
  refine wt_i (y := kds (kLev av hf a b) (kseg av hf a a)) (by rw [kseg_0]; rfl) ?_
  refine lv_istore (lv' := [(5, .int (kds (kLev av hf a b) (kseg av hf a a))), (4, .int (kLev av hf a b)), (0, .ref a0), (1, .ref a1), (2, .int (nI a)), (3, .int (nI b))]) hx hb dL_cost_11 hl (by decide) rfl (fun ls hl => ?_)
  refine lv_iload_n hx hb dL_cost_13 rfl (lv_at hl 4 rfl) ?_
  refine lv_istore (lv' := [(6, .int (nI a)), (5, .int (kds (kLev av hf a b) (kseg av hf a a))), (4, .int (kLev av hf a b)), (0, .ref a0), (1, .ref a1), (2, .int (nI a)), (3, .int (nI b))]) hx hb dL_cost_14 hl (by decide) rfl (fun ls hl => ?_)
  refine wl_loop (fun (d9 : Nat) (H : Heap) (locs : List Loc) (ls : Array Slot) => ∃ (k : Nat), d9 = b - k ∧ (k ≤ b) ∧ (a ≤ k) ∧ va_P D vwCl [(a0, .inl (cI, 60, .inl av)), (a1, .inl (cI, 60, .inl hf))] H ∧ va_D A [(a0, .inl (cI, 60, .inl av)), (a1, .inl (cI, 60, .inl hf))] ∧ va_S A s.heap H locs ∧ lv_has ls 7 [(6, .int (nI k)), (5, .int (kds (kLev av hf a b) (kseg av hf a k))), (4, .int (kLev av hf a b)), (0, .ref a0), (1, .ref a1), (2, .int (nI a)), (3, .int (nI b))]) ?_ _ ⟨a, rfl, hab, Nat.le_refl _, hP, hD, hS, lv_sub hl [0, 1, 2, 3, 4, 5, 6] rfl⟩
  rintro d_4 H locs ls ⟨k, hd_5, hk, hk2, hP, hD, hS, hl⟩ ih_3
  refine lv_iload hx hb dL_cost_16 (lv_at hl 0 rfl) ?_
  refine lv_iload_n hx hb dL_cost_18 rfl (lv_at hl 6 rfl) ?_
  refine lv_icmp_ge (tgt := 71) hx hb dL_cost_19 (by decide) (fun c19 => ?_) (fun c19 => ?_)
  · skip
    have c19 := kle (a := b) (b := k) c19 (by omega) (by omega)
    have ek : k = b := by omega
    rw [ek] at hl
    refine lv_iload hx hb dL_cost_71 (lv_at hl 1 rfl) ?_
    exact kri hx hb hr hlocks hP hK hD hS () (kCost_ds hb60 hav (Nat.le_refl b)) [0, 1] (by decide +kernel) rfl dL_cost_73
  · skip
    have c19 := knle (a := b) (b := k) c19 (by omega) (by omega)
    refine wl_join (pc2 := 62) (fun (stk : List Value) (H : Heap) (locs : List Loc) (ls : Array Slot) => ∃ (dd : Int32), stk = [.int dd, .int (kds (kLev av hf a b) (kseg av hf a k))] ∧ (dd = if hf k = 0 then kdf (kLev av hf a b) (av k) else 0) ∧ va_P D vwCl [(a0, .inl (cI, 60, .inl av)), (a1, .inl (cI, 60, .inl hf))] H ∧ va_D A [(a0, .inl (cI, 60, .inl av)), (a1, .inl (cI, 60, .inl hf))] ∧ va_S A s.heap H locs ∧ lv_has ls 7 [(6, .int (nI k)), (5, .int (kds (kLev av hf a b) (kseg av hf a k))), (4, .int (kLev av hf a b)), (0, .ref a0), (1, .ref a1), (2, .int (nI a)), (3, .int (nI b))]) ?_ (fun j_6 => ?_)
    · skip
      rintro stk H locs ls ⟨dd, rfl, hdd, hP, hD, hS, hl⟩
      refine lv_iadd hx hb dL_cost_62 ?_
      refine wt_i (y := kds (kLev av hf a b) (kseg av hf a (k + 1))) (kds_s hk2 hdd) ?_
      refine lv_istore (lv' := [(5, .int (kds (kLev av hf a b) (kseg av hf a (k + 1)))), (6, .int (nI k)), (4, .int (kLev av hf a b)), (0, .ref a0), (1, .ref a1), (2, .int (nI a)), (3, .int (nI b))]) hx hb dL_cost_63 hl (by decide) rfl (fun ls hl => ?_)
      refine lv_iinc (v := nI (k + 1)) (lv' := [(6, .int (nI (k + 1))), (5, .int (kds (kLev av hf a b) (kseg av hf a (k + 1)))), (4, .int (kLev av hf a b)), (0, .ref a0), (1, .ref a1), (2, .int (nI a)), (3, .int (nI b))]) hx hb dL_cost_65 hl (k := 1) rfl (by exact nI_add _ 1) (by decide) rfl (fun ls hl => ?_)
      refine lv_goto (tgt := 16) hx hb dL_cost_68 (by decide) ?_
      exact ih_3 _ (by omega) _ _ _ ⟨(k + 1), rfl, by omega, by omega, hP, hD, hS, lv_sub hl [0, 1, 2, 3, 4, 5, 6] rfl⟩
    refine lv_iload hx hb dL_cost_22 (lv_at hl 1 rfl) ?_
    refine lv_aload_n hx hb dL_cost_24 rfl (lv_at hl 4 rfl) ?_
    refine lv_iload hx hb dL_cost_25 (lv_at hl 0 rfl) ?_
    refine va_iald (D := D) hx hb hK hP 1 0 rfl rfl (vp_in_nI (by omega) (by decide)) dL_cost_27 ?_
    refine wt_i (by rw [nI_clamp (n := k) (by omega)]) ?_
    refine lv_iconst (v := nI 1) hx hb dL_cost_28 (by decide) ?_
    refine lv_icmp_ne (tgt := 36) hx hb dL_cost_29 (by decide) (fun c29 => ?_) (fun c29 => ?_)
    · skip
      refine lv_aload_n hx hb dL_cost_36 rfl (lv_at hl 3 rfl) ?_
      refine lv_iload hx hb dL_cost_37 (lv_at hl 0 rfl) ?_
      refine va_iald (D := D) hx hb hK hP 0 0 rfl rfl (vp_in_nI (by omega) (by decide)) dL_cost_39 ?_
      refine wt_i (by rw [nI_clamp (n := k) (by omega)]) ?_
      refine lv_iload hx hb dL_cost_40 (lv_at hl 2 rfl) ?_
      refine lv_icmp_ge (tgt := 55) hx hb dL_cost_42 (by decide) (fun c42 => ?_) (fun c42 => ?_)
      · skip
        refine lv_aload_n hx hb dL_cost_55 rfl (lv_at hl 3 rfl) ?_
        refine lv_iload hx hb dL_cost_56 (lv_at hl 0 rfl) ?_
        refine va_iald (D := D) hx hb hK hP 0 0 rfl rfl (vp_in_nI (by omega) (by decide)) dL_cost_58 ?_
        refine wt_i (by rw [nI_clamp (n := k) (by omega)]) ?_
        refine lv_iload hx hb dL_cost_59 (lv_at hl 2 rfl) ?_
        refine lv_isub hx hb dL_cost_61 ?_
        have hz : hf k = 0 := (hbit k).elim id (fun z => absurd z c29)
        exact j_6 _ _ _ _ ⟨(av k) - (kLev av hf a b), rfl, by rw [if_pos hz]; unfold kdf; rw [if_neg (Int32.not_lt.mpr c42)], hP, hD, hS, lv_sub hl [0, 1, 2, 3, 4, 5, 6] rfl⟩
      · skip
        refine lv_iload hx hb dL_cost_45 (lv_at hl 2 rfl) ?_
        refine lv_aload_n hx hb dL_cost_47 rfl (lv_at hl 3 rfl) ?_
        refine lv_iload hx hb dL_cost_48 (lv_at hl 0 rfl) ?_
        refine va_iald (D := D) hx hb hK hP 0 0 rfl rfl (vp_in_nI (by omega) (by decide)) dL_cost_50 ?_
        refine wt_i (by rw [nI_clamp (n := k) (by omega)]) ?_
        refine lv_isub hx hb dL_cost_51 ?_
        refine lv_goto (tgt := 62) hx hb dL_cost_52 (by decide) ?_
        have hz : hf k = 0 := (hbit k).elim id (fun z => absurd z c29)
        exact j_6 _ _ _ _ ⟨(kLev av hf a b) - (av k), rfl, by rw [if_pos hz]; unfold kdf; rw [if_pos (Int32.not_le.mp c42)], hP, hD, hS, lv_sub hl [0, 1, 2, 3, 4, 5, 6] rfl⟩
    · skip
      refine lv_iconst (v := nI 0) hx hb dL_cost_32 (by decide) ?_
      refine lv_goto (tgt := 62) hx hb dL_cost_33 (by decide) ?_
      exact j_6 _ _ _ _ ⟨nI 0, rfl, (if_neg (fun z => by rw [z] at c29; exact absurd c29 (by decide))).symm, hP, hD, hS, lv_sub hl [0, 1, 2, 3, 4, 5, 6] rfl⟩

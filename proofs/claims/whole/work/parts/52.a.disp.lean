theorem u_add {p : Program} {l : Launch} {e : Env} {s : State} {m : MethodId} {below : List Frame} {meth : Method} {c : Code} {Q : State → Prop} {D : va_G} {cI cZ cJ : ClassId} {b L i cells slots : Nat} {xs : Nat → Int32} {H : Heap} {locs : List Loc} {ls : Array Slot} (E : lwE p l s m c D cI cZ cJ b L xs) (hi : 3 * i + 3 ≤ L) (hrc : cells + 1 ≤ room_1.cells) (hrs : slots + 6 ≤ room_1.slots) (kk : ∀ (H : Heap) (locs : List Loc) (ls : Array Slot), lwI s D cI cZ cJ b i H locs ls → W p l e room_1 s m #[Value.ref b] below meth c H locs (cells + 1) (slots + 6) Q (F0 m 1285 ls [])) (I : lwI s D cI cZ cJ b i H locs ls) : W p l e room_1 s m #[Value.ref b] below meth c H locs cells slots Q (F0 m 160 ls []) := by
  obtain ⟨v, hf, n, len, ll, pen, bf, bl, th, o6, o7, fo, fo9, w6, w7, hok, h6, h7, hP, hD, hS, hl⟩ := I
  have hn : n ≤ 60 := hok.1
  rcases kin_two (xs (3 * i + 1)) (-10000 : Int32) (nI 10000) with hb | hb
  · exact t_add_v E hi hrc hrs kk hok h6 h7 hP hD hS hl rfl hb
  · by_cases q : n < 60
    · exact t_add_ok E hi hrc hrs kk hok h6 h7 hP hD hS hl rfl hb q
    · exact t_add_r E hi hrc hrs kk hok h6 h7 hP hD hS hl rfl hb (by omega)
theorem u_addMany {p : Program} {l : Launch} {e : Env} {s : State} {m : MethodId} {below : List Frame} {meth : Method} {c : Code} {Q : State → Prop} {D : va_G} {cI cZ cJ : ClassId} {b L i cells slots : Nat} {xs : Nat → Int32} {H : Heap} {locs : List Loc} {ls : Array Slot} (E : lwE p l s m c D cI cZ cJ b L xs) (hi : 3 * i + 3 ≤ L) (hrc : cells + 1 ≤ room_1.cells) (hrs : slots + 6 ≤ room_1.slots) (kk : ∀ (H : Heap) (locs : List Loc) (ls : Array Slot), lwI s D cI cZ cJ b i H locs ls → W p l e room_1 s m #[Value.ref b] below meth c H locs (cells + 1) (slots + 6) Q (F0 m 1285 ls [])) (I : lwI s D cI cZ cJ b i H locs ls) : W p l e room_1 s m #[Value.ref b] below meth c H locs cells slots Q (F0 m 216 ls []) := by
  obtain ⟨v, hf, n, len, ll, pen, bf, bl, th, o6, o7, fo, fo9, w6, w7, hok, h6, h7, hP, hD, hS, hl⟩ := I
  have hn : n ≤ 60 := hok.1
  rcases kin_two (xs (3 * i + 1)) (-10000 : Int32) (nI 10000) with hb | hb
  · exact t_addMany_v E hi hrc hrs kk hok h6 h7 hP hD hS hl rfl rfl hb
  · rcases kin_two (xs (3 * i + 2)) (nI 1) (nI 60) with hc | hc
    · exact t_addMany_t E hi hrc hrs kk hok h6 h7 hP hD hS hl rfl rfl hb hc
    · obtain ⟨t, et, g1, g2⟩ := kin_nat (by omega) (by omega) hc
      by_cases q : n + t ≤ 60
      · exact t_addMany_ok E hi hrc hrs kk hok h6 h7 hP hD hS hl rfl et hb g1 q
      · exact t_addMany_r E hi hrc hrs kk hok h6 h7 hP hD hS hl rfl et hb g1 g2 (by omega)
theorem u_correct {p : Program} {l : Launch} {e : Env} {s : State} {m : MethodId} {below : List Frame} {meth : Method} {c : Code} {Q : State → Prop} {D : va_G} {cI cZ cJ : ClassId} {b L i cells slots : Nat} {xs : Nat → Int32} {H : Heap} {locs : List Loc} {ls : Array Slot} (E : lwE p l s m c D cI cZ cJ b L xs) (hi : 3 * i + 3 ≤ L) (hrc : cells + 1 ≤ room_1.cells) (hrs : slots + 6 ≤ room_1.slots) (kk : ∀ (H : Heap) (locs : List Loc) (ls : Array Slot), lwI s D cI cZ cJ b i H locs ls → W p l e room_1 s m #[Value.ref b] below meth c H locs (cells + 1) (slots + 6) Q (F0 m 1285 ls [])) (I : lwI s D cI cZ cJ b i H locs ls) : W p l e room_1 s m #[Value.ref b] below meth c H locs cells slots Q (F0 m 284 ls []) := by
  obtain ⟨v, hf, n, len, ll, pen, bf, bl, th, o6, o7, fo, fo9, w6, w7, hok, h6, h7, hP, hD, hS, hl⟩ := I
  have hn : n ≤ 60 := hok.1
  rcases kin_two (xs (3 * i + 1)) (nI 0) (nI n - nI 1) with hb | hb
  · exact t_correct_k E hi hrc hrs kk hok h6 h7 hP hD hS hl rfl rfl hb
  · obtain ⟨k, ek, -, hk⟩ := kin_up hn (Nat.zero_le 60) hb
    rcases kin_two (xs (3 * i + 2)) (-10000 : Int32) (nI 10000) with hc | hc
    · exact t_correct_v E hi hrc hrs kk hok h6 h7 hP hD hS hl ek rfl hk hc
    · exact t_correct_ok E hi hrc hrs kk hok h6 h7 hP hD hS hl ek rfl hc hk
theorem u_setHoliday {p : Program} {l : Launch} {e : Env} {s : State} {m : MethodId} {below : List Frame} {meth : Method} {c : Code} {Q : State → Prop} {D : va_G} {cI cZ cJ : ClassId} {b L i cells slots : Nat} {xs : Nat → Int32} {H : Heap} {locs : List Loc} {ls : Array Slot} (E : lwE p l s m c D cI cZ cJ b L xs) (hi : 3 * i + 3 ≤ L) (hrc : cells + 1 ≤ room_1.cells) (hrs : slots + 6 ≤ room_1.slots) (kk : ∀ (H : Heap) (locs : List Loc) (ls : Array Slot), lwI s D cI cZ cJ b i H locs ls → W p l e room_1 s m #[Value.ref b] below meth c H locs (cells + 1) (slots + 6) Q (F0 m 1285 ls [])) (I : lwI s D cI cZ cJ b i H locs ls) : W p l e room_1 s m #[Value.ref b] below meth c H locs cells slots Q (F0 m 352 ls []) := by
  obtain ⟨v, hf, n, len, ll, pen, bf, bl, th, o6, o7, fo, fo9, w6, w7, hok, h6, h7, hP, hD, hS, hl⟩ := I
  have hn : n ≤ 60 := hok.1
  rcases kin_two (xs (3 * i + 1)) (nI 0) (nI n - nI 1) with hb | hb
  · by_cases y : (xs (3 * i + 2)) = nI 0
    · exact t_setHoliday_k0 E hi hrc hrs kk hok h6 h7 hP hD hS hl rfl y hb
    · exact t_setHoliday_k1 E hi hrc hrs kk hok h6 h7 hP hD hS hl rfl rfl hb y
  · obtain ⟨k, ek, -, hk⟩ := kin_up hn (Nat.zero_le 60) hb
    by_cases y : (xs (3 * i + 2)) = nI 0
    · exact t_setHoliday_ok0 E hi hrc hrs kk hok h6 h7 hP hD hS hl ek y hk
    · exact t_setHoliday_ok1 E hi hrc hrs kk hok h6 h7 hP hD hS hl ek rfl hk y
theorem u_drop {p : Program} {l : Launch} {e : Env} {s : State} {m : MethodId} {below : List Frame} {meth : Method} {c : Code} {Q : State → Prop} {D : va_G} {cI cZ cJ : ClassId} {b L i cells slots : Nat} {xs : Nat → Int32} {H : Heap} {locs : List Loc} {ls : Array Slot} (E : lwE p l s m c D cI cZ cJ b L xs) (hi : 3 * i + 3 ≤ L) (hrc : cells + 1 ≤ room_1.cells) (hrs : slots + 6 ≤ room_1.slots) (kk : ∀ (H : Heap) (locs : List Loc) (ls : Array Slot), lwI s D cI cZ cJ b i H locs ls → W p l e room_1 s m #[Value.ref b] below meth c H locs (cells + 1) (slots + 6) Q (F0 m 1285 ls [])) (I : lwI s D cI cZ cJ b i H locs ls) : W p l e room_1 s m #[Value.ref b] below meth c H locs cells slots Q (F0 m 443 ls []) := by
  obtain ⟨v, hf, n, len, ll, pen, bf, bl, th, o6, o7, fo, fo9, w6, w7, hok, h6, h7, hP, hD, hS, hl⟩ := I
  have hn : n ≤ 60 := hok.1
  rcases kin_two (xs (3 * i + 1)) (nI 0) (nI n) with hb | hb
  · exact t_drop_k E hi hrc hrs kk hok h6 h7 hP hD hS hl rfl hb
  · obtain ⟨k, ek, -, hk⟩ := kin_nat (by omega) (by omega) hb
    exact t_drop_ok E hi hrc hrs kk hok h6 h7 hP hD hS hl ek hk
theorem u_setSeason {p : Program} {l : Launch} {e : Env} {s : State} {m : MethodId} {below : List Frame} {meth : Method} {c : Code} {Q : State → Prop} {D : va_G} {cI cZ cJ : ClassId} {b L i cells slots : Nat} {xs : Nat → Int32} {H : Heap} {locs : List Loc} {ls : Array Slot} (E : lwE p l s m c D cI cZ cJ b L xs) (hi : 3 * i + 3 ≤ L) (hrc : cells + 1 ≤ room_1.cells) (hrs : slots + 6 ≤ room_1.slots) (kk : ∀ (H : Heap) (locs : List Loc) (ls : Array Slot), lwI s D cI cZ cJ b i H locs ls → W p l e room_1 s m #[Value.ref b] below meth c H locs (cells + 1) (slots + 6) Q (F0 m 1285 ls [])) (I : lwI s D cI cZ cJ b i H locs ls) : W p l e room_1 s m #[Value.ref b] below meth c H locs cells slots Q (F0 m 499 ls []) := by
  obtain ⟨v, hf, n, len, ll, pen, bf, bl, th, o6, o7, fo, fo9, w6, w7, hok, h6, h7, hP, hD, hS, hl⟩ := I
  have hn : n ≤ 60 := hok.1
  rcases kin_two (xs (3 * i + 1)) (nI 1) (nI 12) with hb | hb
  · exact t_setSeason_k E hi hrc hrs kk hok h6 h7 hP hD hS hl rfl hb
  · obtain ⟨t, et, g1, g2⟩ := kin_nat (by omega) (by omega) hb
    exact t_setSeason_ok E hi hrc hrs kk hok h6 h7 hP hD hS hl et g1 g2
theorem u_setCuts {p : Program} {l : Launch} {e : Env} {s : State} {m : MethodId} {below : List Frame} {meth : Method} {c : Code} {Q : State → Prop} {D : va_G} {cI cZ cJ : ClassId} {b L i cells slots : Nat} {xs : Nat → Int32} {H : Heap} {locs : List Loc} {ls : Array Slot} (E : lwE p l s m c D cI cZ cJ b L xs) (hi : 3 * i + 3 ≤ L) (hrc : cells + 1 ≤ room_1.cells) (hrs : slots + 6 ≤ room_1.slots) (kk : ∀ (H : Heap) (locs : List Loc) (ls : Array Slot), lwI s D cI cZ cJ b i H locs ls → W p l e room_1 s m #[Value.ref b] below meth c H locs (cells + 1) (slots + 6) Q (F0 m 1285 ls [])) (I : lwI s D cI cZ cJ b i H locs ls) : W p l e room_1 s m #[Value.ref b] below meth c H locs cells slots Q (F0 m 555 ls []) := by
  obtain ⟨v, hf, n, len, ll, pen, bf, bl, th, o6, o7, fo, fo9, w6, w7, hok, h6, h7, hP, hD, hS, hl⟩ := I
  have hn : n ≤ 60 := hok.1
  rcases kin_two (xs (3 * i + 1)) (nI 1) (nI 10) with hb | hb
  · exact t_setCuts_l E hi hrc hrs kk hok h6 h7 hP hD hS hl rfl rfl hb
  · rcases kin_two (xs (3 * i + 2)) (nI 0) (nI 100000) with hc | hc
    · exact t_setCuts_p E hi hrc hrs kk hok h6 h7 hP hD hS hl rfl rfl hb hc
    · obtain ⟨t, et, g1, g2⟩ := kin_nat (by omega) (by omega) hb
      exact t_setCuts_ok E hi hrc hrs kk hok h6 h7 hP hD hS hl et rfl g1 g2 hc
theorem u_setBound {p : Program} {l : Launch} {e : Env} {s : State} {m : MethodId} {below : List Frame} {meth : Method} {c : Code} {Q : State → Prop} {D : va_G} {cI cZ cJ : ClassId} {b L i cells slots : Nat} {xs : Nat → Int32} {H : Heap} {locs : List Loc} {ls : Array Slot} (E : lwE p l s m c D cI cZ cJ b L xs) (hi : 3 * i + 3 ≤ L) (hrc : cells + 1 ≤ room_1.cells) (hrs : slots + 6 ≤ room_1.slots) (kk : ∀ (H : Heap) (locs : List Loc) (ls : Array Slot), lwI s D cI cZ cJ b i H locs ls → W p l e room_1 s m #[Value.ref b] below meth c H locs (cells + 1) (slots + 6) Q (F0 m 1285 ls [])) (I : lwI s D cI cZ cJ b i H locs ls) : W p l e room_1 s m #[Value.ref b] below meth c H locs cells slots Q (F0 m 603 ls []) := by
  obtain ⟨v, hf, n, len, ll, pen, bf, bl, th, o6, o7, fo, fo9, w6, w7, hok, h6, h7, hP, hD, hS, hl⟩ := I
  have hn : n ≤ 60 := hok.1
  rcases kin_two (xs (3 * i + 1)) (nI 100) (nI 2000) with hb | hb
  · exact t_setBound_f E hi hrc hrs kk hok h6 h7 hP hD hS hl rfl rfl hb
  · rcases kin_two (xs (3 * i + 2)) (nI 0) (nI 1000) with hc | hc
    · exact t_setBound_l E hi hrc hrs kk hok h6 h7 hP hD hS hl rfl rfl hb hc
    · exact t_setBound_ok E hi hrc hrs kk hok h6 h7 hP hD hS hl rfl rfl hb hc
theorem u_size {p : Program} {l : Launch} {e : Env} {s : State} {m : MethodId} {below : List Frame} {meth : Method} {c : Code} {Q : State → Prop} {D : va_G} {cI cZ cJ : ClassId} {b L i cells slots : Nat} {xs : Nat → Int32} {H : Heap} {locs : List Loc} {ls : Array Slot} (E : lwE p l s m c D cI cZ cJ b L xs) (hi : 3 * i + 3 ≤ L) (hrc : cells + 1 ≤ room_1.cells) (hrs : slots + 6 ≤ room_1.slots) (kk : ∀ (H : Heap) (locs : List Loc) (ls : Array Slot), lwI s D cI cZ cJ b i H locs ls → W p l e room_1 s m #[Value.ref b] below meth c H locs (cells + 1) (slots + 6) Q (F0 m 1285 ls [])) (I : lwI s D cI cZ cJ b i H locs ls) : W p l e room_1 s m #[Value.ref b] below meth c H locs cells slots Q (F0 m 651 ls []) := by
  obtain ⟨v, hf, n, len, ll, pen, bf, bl, th, o6, o7, fo, fo9, w6, w7, hok, h6, h7, hP, hD, hS, hl⟩ := I
  have hn : n ≤ 60 := hok.1
  exact t_size E hi hrc hrs kk hok h6 h7 hP hD hS hl
theorem u_base {p : Program} {l : Launch} {e : Env} {s : State} {m : MethodId} {below : List Frame} {meth : Method} {c : Code} {Q : State → Prop} {D : va_G} {cI cZ cJ : ClassId} {b L i cells slots : Nat} {xs : Nat → Int32} {H : Heap} {locs : List Loc} {ls : Array Slot} (E : lwE p l s m c D cI cZ cJ b L xs) (hi : 3 * i + 3 ≤ L) (hrc : cells + 1 ≤ room_1.cells) (hrs : slots + 6 ≤ room_1.slots) (kk : ∀ (H : Heap) (locs : List Loc) (ls : Array Slot), lwI s D cI cZ cJ b i H locs ls → W p l e room_1 s m #[Value.ref b] below meth c H locs (cells + 1) (slots + 6) Q (F0 m 1285 ls [])) (I : lwI s D cI cZ cJ b i H locs ls) : W p l e room_1 s m #[Value.ref b] below meth c H locs cells slots Q (F0 m 720 ls []) := by
  obtain ⟨v, hf, n, len, ll, pen, bf, bl, th, o6, o7, fo, fo9, w6, w7, hok, h6, h7, hP, hD, hS, hl⟩ := I
  have hn : n ≤ 60 := hok.1
  exact t_base E hi hrc hrs kk hok h6 h7 hP hD hS hl
theorem u_segments {p : Program} {l : Launch} {e : Env} {s : State} {m : MethodId} {below : List Frame} {meth : Method} {c : Code} {Q : State → Prop} {D : va_G} {cI cZ cJ : ClassId} {b L i cells slots : Nat} {xs : Nat → Int32} {H : Heap} {locs : List Loc} {ls : Array Slot} (E : lwE p l s m c D cI cZ cJ b L xs) (hi : 3 * i + 3 ≤ L) (hrc : cells + 1 ≤ room_1.cells) (hrs : slots + 6 ≤ room_1.slots) (kk : ∀ (H : Heap) (locs : List Loc) (ls : Array Slot), lwI s D cI cZ cJ b i H locs ls → W p l e room_1 s m #[Value.ref b] below meth c H locs (cells + 1) (slots + 6) Q (F0 m 1285 ls [])) (I : lwI s D cI cZ cJ b i H locs ls) : W p l e room_1 s m #[Value.ref b] below meth c H locs cells slots Q (F0 m 845 ls []) := by
  obtain ⟨v, hf, n, len, ll, pen, bf, bl, th, o6, o7, fo, fo9, w6, w7, hok, h6, h7, hP, hD, hS, hl⟩ := I
  have hn : n ≤ 60 := hok.1
  exact t_segments E hi hrc hrs kk hok h6 h7 hP hD hS hl
theorem u_cost {p : Program} {l : Launch} {e : Env} {s : State} {m : MethodId} {below : List Frame} {meth : Method} {c : Code} {Q : State → Prop} {D : va_G} {cI cZ cJ : ClassId} {b L i cells slots : Nat} {xs : Nat → Int32} {H : Heap} {locs : List Loc} {ls : Array Slot} (E : lwE p l s m c D cI cZ cJ b L xs) (hi : 3 * i + 3 ≤ L) (hrc : cells + 1 ≤ room_1.cells) (hrs : slots + 6 ≤ room_1.slots) (kk : ∀ (H : Heap) (locs : List Loc) (ls : Array Slot), lwI s D cI cZ cJ b i H locs ls → W p l e room_1 s m #[Value.ref b] below meth c H locs (cells + 1) (slots + 6) Q (F0 m 1285 ls [])) (I : lwI s D cI cZ cJ b i H locs ls) : W p l e room_1 s m #[Value.ref b] below meth c H locs cells slots Q (F0 m 970 ls []) := by
  obtain ⟨v, hf, n, len, ll, pen, bf, bl, th, o6, o7, fo, fo9, w6, w7, hok, h6, h7, hP, hD, hS, hl⟩ := I
  have hn : n ≤ 60 := hok.1
  exact t_cost E hi hrc hrs kk hok h6 h7 hP hD hS hl
theorem u_costUncut {p : Program} {l : Launch} {e : Env} {s : State} {m : MethodId} {below : List Frame} {meth : Method} {c : Code} {Q : State → Prop} {D : va_G} {cI cZ cJ : ClassId} {b L i cells slots : Nat} {xs : Nat → Int32} {H : Heap} {locs : List Loc} {ls : Array Slot} (E : lwE p l s m c D cI cZ cJ b L xs) (hi : 3 * i + 3 ≤ L) (hrc : cells + 1 ≤ room_1.cells) (hrs : slots + 6 ≤ room_1.slots) (kk : ∀ (H : Heap) (locs : List Loc) (ls : Array Slot), lwI s D cI cZ cJ b i H locs ls → W p l e room_1 s m #[Value.ref b] below meth c H locs (cells + 1) (slots + 6) Q (F0 m 1285 ls [])) (I : lwI s D cI cZ cJ b i H locs ls) : W p l e room_1 s m #[Value.ref b] below meth c H locs cells slots Q (F0 m 983 ls []) := by
  obtain ⟨v, hf, n, len, ll, pen, bf, bl, th, o6, o7, fo, fo9, w6, w7, hok, h6, h7, hP, hD, hS, hl⟩ := I
  have hn : n ≤ 60 := hok.1
  exact t_costUncut E hi hrc hrs kk hok h6 h7 hP hD hS hl
theorem u_deviation {p : Program} {l : Launch} {e : Env} {s : State} {m : MethodId} {below : List Frame} {meth : Method} {c : Code} {Q : State → Prop} {D : va_G} {cI cZ cJ : ClassId} {b L i cells slots : Nat} {xs : Nat → Int32} {H : Heap} {locs : List Loc} {ls : Array Slot} (E : lwE p l s m c D cI cZ cJ b L xs) (hi : 3 * i + 3 ≤ L) (hrc : cells + 1 ≤ room_1.cells) (hrs : slots + 6 ≤ room_1.slots) (kk : ∀ (H : Heap) (locs : List Loc) (ls : Array Slot), lwI s D cI cZ cJ b i H locs ls → W p l e room_1 s m #[Value.ref b] below meth c H locs (cells + 1) (slots + 6) Q (F0 m 1285 ls [])) (I : lwI s D cI cZ cJ b i H locs ls) : W p l e room_1 s m #[Value.ref b] below meth c H locs cells slots Q (F0 m 1152 ls []) := by
  obtain ⟨v, hf, n, len, ll, pen, bf, bl, th, o6, o7, fo, fo9, w6, w7, hok, h6, h7, hP, hD, hS, hl⟩ := I
  have hn : n ≤ 60 := hok.1
  exact t_deviation E hi hrc hrs kk hok h6 h7 hP hD hS hl
theorem u_bound {p : Program} {l : Launch} {e : Env} {s : State} {m : MethodId} {below : List Frame} {meth : Method} {c : Code} {Q : State → Prop} {D : va_G} {cI cZ cJ : ClassId} {b L i cells slots : Nat} {xs : Nat → Int32} {H : Heap} {locs : List Loc} {ls : Array Slot} (E : lwE p l s m c D cI cZ cJ b L xs) (hi : 3 * i + 3 ≤ L) (hrc : cells + 1 ≤ room_1.cells) (hrs : slots + 6 ≤ room_1.slots) (kk : ∀ (H : Heap) (locs : List Loc) (ls : Array Slot), lwI s D cI cZ cJ b i H locs ls → W p l e room_1 s m #[Value.ref b] below meth c H locs (cells + 1) (slots + 6) Q (F0 m 1285 ls [])) (I : lwI s D cI cZ cJ b i H locs ls) : W p l e room_1 s m #[Value.ref b] below meth c H locs cells slots Q (F0 m 1165 ls []) := by
  obtain ⟨v, hf, n, len, ll, pen, bf, bl, th, o6, o7, fo, fo9, w6, w7, hok, h6, h7, hP, hD, hS, hl⟩ := I
  have hn : n ≤ 60 := hok.1
  exact t_bound E hi hrc hrs kk hok h6 h7 hP hD hS hl
theorem u_anomalies {p : Program} {l : Launch} {e : Env} {s : State} {m : MethodId} {below : List Frame} {meth : Method} {c : Code} {Q : State → Prop} {D : va_G} {cI cZ cJ : ClassId} {b L i cells slots : Nat} {xs : Nat → Int32} {H : Heap} {locs : List Loc} {ls : Array Slot} (E : lwE p l s m c D cI cZ cJ b L xs) (hi : 3 * i + 3 ≤ L) (hrc : cells + 1 ≤ room_1.cells) (hrs : slots + 6 ≤ room_1.slots) (kk : ∀ (H : Heap) (locs : List Loc) (ls : Array Slot), lwI s D cI cZ cJ b i H locs ls → W p l e room_1 s m #[Value.ref b] below meth c H locs (cells + 1) (slots + 6) Q (F0 m 1285 ls [])) (I : lwI s D cI cZ cJ b i H locs ls) : W p l e room_1 s m #[Value.ref b] below meth c H locs cells slots Q (F0 m 1234 ls []) := by
  obtain ⟨v, hf, n, len, ll, pen, bf, bl, th, o6, o7, fo, fo9, w6, w7, hok, h6, h7, hP, hD, hS, hl⟩ := I
  have hn : n ≤ 60 := hok.1
  exact t_anomalies E hi hrc hrs kk hok h6 h7 hP hD hS hl
theorem u_expected {p : Program} {l : Launch} {e : Env} {s : State} {m : MethodId} {below : List Frame} {meth : Method} {c : Code} {Q : State → Prop} {D : va_G} {cI cZ cJ : ClassId} {b L i cells slots : Nat} {xs : Nat → Int32} {H : Heap} {locs : List Loc} {ls : Array Slot} (E : lwE p l s m c D cI cZ cJ b L xs) (hi : 3 * i + 3 ≤ L) (hrc : cells + 1 ≤ room_1.cells) (hrs : slots + 6 ≤ room_1.slots) (kk : ∀ (H : Heap) (locs : List Loc) (ls : Array Slot), lwI s D cI cZ cJ b i H locs ls → W p l e room_1 s m #[Value.ref b] below meth c H locs (cells + 1) (slots + 6) Q (F0 m 1285 ls [])) (I : lwI s D cI cZ cJ b i H locs ls) : W p l e room_1 s m #[Value.ref b] below meth c H locs cells slots Q (F0 m 1247 ls []) := by
  obtain ⟨v, hf, n, len, ll, pen, bf, bl, th, o6, o7, fo, fo9, w6, w7, hok, h6, h7, hP, hD, hS, hl⟩ := I
  have hn : n ≤ 60 := hok.1
  exact t_expected E hi hrc hrs kk hok h6 h7 hP hD hS hl
theorem u_judge {p : Program} {l : Launch} {e : Env} {s : State} {m : MethodId} {below : List Frame} {meth : Method} {c : Code} {Q : State → Prop} {D : va_G} {cI cZ cJ : ClassId} {b L i cells slots : Nat} {xs : Nat → Int32} {H : Heap} {locs : List Loc} {ls : Array Slot} (E : lwE p l s m c D cI cZ cJ b L xs) (hi : 3 * i + 3 ≤ L) (hrc : cells + 1 ≤ room_1.cells) (hrs : slots + 6 ≤ room_1.slots) (kk : ∀ (H : Heap) (locs : List Loc) (ls : Array Slot), lwI s D cI cZ cJ b i H locs ls → W p l e room_1 s m #[Value.ref b] below meth c H locs (cells + 1) (slots + 6) Q (F0 m 1285 ls [])) (I : lwI s D cI cZ cJ b i H locs ls) : W p l e room_1 s m #[Value.ref b] below meth c H locs cells slots Q (F0 m 1260 ls []) := by
  obtain ⟨v, hf, n, len, ll, pen, bf, bl, th, o6, o7, fo, fo9, w6, w7, hok, h6, h7, hP, hD, hS, hl⟩ := I
  have hn : n ≤ 60 := hok.1
  exact t_judge E hi hrc hrs kk hok h6 h7 hP hD hS hl rfl
theorem u_value {p : Program} {l : Launch} {e : Env} {s : State} {m : MethodId} {below : List Frame} {meth : Method} {c : Code} {Q : State → Prop} {D : va_G} {cI cZ cJ : ClassId} {b L i cells slots : Nat} {xs : Nat → Int32} {H : Heap} {locs : List Loc} {ls : Array Slot} (E : lwE p l s m c D cI cZ cJ b L xs) (hi : 3 * i + 3 ≤ L) (hrc : cells + 1 ≤ room_1.cells) (hrs : slots + 6 ≤ room_1.slots) (kk : ∀ (H : Heap) (locs : List Loc) (ls : Array Slot), lwI s D cI cZ cJ b i H locs ls → W p l e room_1 s m #[Value.ref b] below meth c H locs (cells + 1) (slots + 6) Q (F0 m 1285 ls [])) (I : lwI s D cI cZ cJ b i H locs ls) : W p l e room_1 s m #[Value.ref b] below meth c H locs cells slots Q (F0 m 664 ls []) := by
  obtain ⟨v, hf, n, len, ll, pen, bf, bl, th, o6, o7, fo, fo9, w6, w7, hok, h6, h7, hP, hD, hS, hl⟩ := I
  have hn : n ≤ 60 := hok.1
  rcases kin_two (xs (3 * i + 1)) (nI 0) (nI n - nI 1) with hb | hb
  · exact t_value_k E hi hrc hrs kk hok h6 h7 hP hD hS hl rfl hb
  · obtain ⟨k, ek, -, hk⟩ := kin_up hn (Nat.zero_le 60) hb
    exact t_value_ok E hi hrc hrs kk hok h6 h7 hP hD hS hl ek hk
theorem u_adjusted {p : Program} {l : Launch} {e : Env} {s : State} {m : MethodId} {below : List Frame} {meth : Method} {c : Code} {Q : State → Prop} {D : va_G} {cI cZ cJ : ClassId} {b L i cells slots : Nat} {xs : Nat → Int32} {H : Heap} {locs : List Loc} {ls : Array Slot} (E : lwE p l s m c D cI cZ cJ b L xs) (hi : 3 * i + 3 ≤ L) (hrc : cells + 1 ≤ room_1.cells) (hrs : slots + 6 ≤ room_1.slots) (kk : ∀ (H : Heap) (locs : List Loc) (ls : Array Slot), lwI s D cI cZ cJ b i H locs ls → W p l e room_1 s m #[Value.ref b] below meth c H locs (cells + 1) (slots + 6) Q (F0 m 1285 ls [])) (I : lwI s D cI cZ cJ b i H locs ls) : W p l e room_1 s m #[Value.ref b] below meth c H locs cells slots Q (F0 m 789 ls []) := by
  obtain ⟨v, hf, n, len, ll, pen, bf, bl, th, o6, o7, fo, fo9, w6, w7, hok, h6, h7, hP, hD, hS, hl⟩ := I
  have hn : n ≤ 60 := hok.1
  rcases kin_two (xs (3 * i + 1)) (nI 0) (nI n - nI 1) with hb | hb
  · exact t_adjusted_k E hi hrc hrs kk hok h6 h7 hP hD hS hl rfl hb
  · obtain ⟨k, ek, -, hk⟩ := kin_up hn (Nat.zero_le 60) hb
    exact t_adjusted_ok E hi hrc hrs kk hok h6 h7 hP hD hS hl ek hk
theorem u_residual {p : Program} {l : Launch} {e : Env} {s : State} {m : MethodId} {below : List Frame} {meth : Method} {c : Code} {Q : State → Prop} {D : va_G} {cI cZ cJ : ClassId} {b L i cells slots : Nat} {xs : Nat → Int32} {H : Heap} {locs : List Loc} {ls : Array Slot} (E : lwE p l s m c D cI cZ cJ b L xs) (hi : 3 * i + 3 ≤ L) (hrc : cells + 1 ≤ room_1.cells) (hrs : slots + 6 ≤ room_1.slots) (kk : ∀ (H : Heap) (locs : List Loc) (ls : Array Slot), lwI s D cI cZ cJ b i H locs ls → W p l e room_1 s m #[Value.ref b] below meth c H locs (cells + 1) (slots + 6) Q (F0 m 1285 ls [])) (I : lwI s D cI cZ cJ b i H locs ls) : W p l e room_1 s m #[Value.ref b] below meth c H locs cells slots Q (F0 m 1096 ls []) := by
  obtain ⟨v, hf, n, len, ll, pen, bf, bl, th, o6, o7, fo, fo9, w6, w7, hok, h6, h7, hP, hD, hS, hl⟩ := I
  have hn : n ≤ 60 := hok.1
  rcases kin_two (xs (3 * i + 1)) (nI 0) (nI n - nI 1) with hb | hb
  · exact t_residual_k E hi hrc hrs kk hok h6 h7 hP hD hS hl rfl hb
  · obtain ⟨k, ek, -, hk⟩ := kin_up hn (Nat.zero_le 60) hb
    exact t_residual_ok E hi hrc hrs kk hok h6 h7 hP hD hS hl ek hk
theorem u_verdict {p : Program} {l : Launch} {e : Env} {s : State} {m : MethodId} {below : List Frame} {meth : Method} {c : Code} {Q : State → Prop} {D : va_G} {cI cZ cJ : ClassId} {b L i cells slots : Nat} {xs : Nat → Int32} {H : Heap} {locs : List Loc} {ls : Array Slot} (E : lwE p l s m c D cI cZ cJ b L xs) (hi : 3 * i + 3 ≤ L) (hrc : cells + 1 ≤ room_1.cells) (hrs : slots + 6 ≤ room_1.slots) (kk : ∀ (H : Heap) (locs : List Loc) (ls : Array Slot), lwI s D cI cZ cJ b i H locs ls → W p l e room_1 s m #[Value.ref b] below meth c H locs (cells + 1) (slots + 6) Q (F0 m 1285 ls [])) (I : lwI s D cI cZ cJ b i H locs ls) : W p l e room_1 s m #[Value.ref b] below meth c H locs cells slots Q (F0 m 1178 ls []) := by
  obtain ⟨v, hf, n, len, ll, pen, bf, bl, th, o6, o7, fo, fo9, w6, w7, hok, h6, h7, hP, hD, hS, hl⟩ := I
  have hn : n ≤ 60 := hok.1
  rcases kin_two (xs (3 * i + 1)) (nI 0) (nI n - nI 1) with hb | hb
  · exact t_verdict_k E hi hrc hrs kk hok h6 h7 hP hD hS hl rfl hb
  · obtain ⟨k, ek, -, hk⟩ := kin_up hn (Nat.zero_le 60) hb
    exact t_verdict_ok E hi hrc hrs kk hok h6 h7 hP hD hS hl ek hk
theorem u_season {p : Program} {l : Launch} {e : Env} {s : State} {m : MethodId} {below : List Frame} {meth : Method} {c : Code} {Q : State → Prop} {D : va_G} {cI cZ cJ : ClassId} {b L i cells slots : Nat} {xs : Nat → Int32} {H : Heap} {locs : List Loc} {ls : Array Slot} (E : lwE p l s m c D cI cZ cJ b L xs) (hi : 3 * i + 3 ≤ L) (hrc : cells + 1 ≤ room_1.cells) (hrs : slots + 6 ≤ room_1.slots) (kk : ∀ (H : Heap) (locs : List Loc) (ls : Array Slot), lwI s D cI cZ cJ b i H locs ls → W p l e room_1 s m #[Value.ref b] below meth c H locs (cells + 1) (slots + 6) Q (F0 m 1285 ls [])) (I : lwI s D cI cZ cJ b i H locs ls) : W p l e room_1 s m #[Value.ref b] below meth c H locs cells slots Q (F0 m 733 ls []) := by
  obtain ⟨v, hf, n, len, ll, pen, bf, bl, th, o6, o7, fo, fo9, w6, w7, hok, h6, h7, hP, hD, hS, hl⟩ := I
  have hn : n ≤ 60 := hok.1
  have hlen : len ≤ 60 := Nat.le_trans hok.2.2.2.1 (by decide)
  rcases kin_two (xs (3 * i + 1)) (nI 0) (nI len - nI 1) with hb | hb
  · exact t_season_k E hi hrc hrs kk hok h6 h7 hP hD hS hl rfl hb
  · obtain ⟨k, ek, -, hk⟩ := kin_up hlen (Nat.zero_le 60) hb
    exact t_season_ok E hi hrc hrs kk hok h6 h7 hP hD hS hl ek hk
theorem u_startOf {p : Program} {l : Launch} {e : Env} {s : State} {m : MethodId} {below : List Frame} {meth : Method} {c : Code} {Q : State → Prop} {D : va_G} {cI cZ cJ : ClassId} {b L i cells slots : Nat} {xs : Nat → Int32} {H : Heap} {locs : List Loc} {ls : Array Slot} (E : lwE p l s m c D cI cZ cJ b L xs) (hi : 3 * i + 3 ≤ L) (hrc : cells + 1 ≤ room_1.cells) (hrs : slots + 6 ≤ room_1.slots) (kk : ∀ (H : Heap) (locs : List Loc) (ls : Array Slot), lwI s D cI cZ cJ b i H locs ls → W p l e room_1 s m #[Value.ref b] below meth c H locs (cells + 1) (slots + 6) Q (F0 m 1285 ls [])) (I : lwI s D cI cZ cJ b i H locs ls) : W p l e room_1 s m #[Value.ref b] below meth c H locs cells slots Q (F0 m 858 ls []) := by
  obtain ⟨v, hf, n, len, ll, pen, bf, bl, th, o6, o7, fo, fo9, w6, w7, hok, h6, h7, hP, hD, hS, hl⟩ := I
  have hn : n ≤ 60 := hok.1
  have hfd : (kFnd v hf n len ll pen) ≤ 60 := by have := (kFnd_ok (v := v) (hf := hf) (len := len) (ll := ll) (pen := pen) hn).2.1; omega
  rcases kin_two (xs (3 * i + 1)) (nI 0) (nI (kFnd v hf n len ll pen) - nI 1) with hb | hb
  · exact t_startOf_k E hi hrc hrs kk hok h6 h7 hP hD hS hl rfl hb
  · obtain ⟨k, ek, -, hk⟩ := kin_up hfd (Nat.zero_le 60) hb
    exact t_startOf_ok E hi hrc hrs kk hok h6 h7 hP hD hS hl ek hk
theorem u_levelOf {p : Program} {l : Launch} {e : Env} {s : State} {m : MethodId} {below : List Frame} {meth : Method} {c : Code} {Q : State → Prop} {D : va_G} {cI cZ cJ : ClassId} {b L i cells slots : Nat} {xs : Nat → Int32} {H : Heap} {locs : List Loc} {ls : Array Slot} (E : lwE p l s m c D cI cZ cJ b L xs) (hi : 3 * i + 3 ≤ L) (hrc : cells + 1 ≤ room_1.cells) (hrs : slots + 6 ≤ room_1.slots) (kk : ∀ (H : Heap) (locs : List Loc) (ls : Array Slot), lwI s D cI cZ cJ b i H locs ls → W p l e room_1 s m #[Value.ref b] below meth c H locs (cells + 1) (slots + 6) Q (F0 m 1285 ls [])) (I : lwI s D cI cZ cJ b i H locs ls) : W p l e room_1 s m #[Value.ref b] below meth c H locs cells slots Q (F0 m 914 ls []) := by
  obtain ⟨v, hf, n, len, ll, pen, bf, bl, th, o6, o7, fo, fo9, w6, w7, hok, h6, h7, hP, hD, hS, hl⟩ := I
  have hn : n ≤ 60 := hok.1
  have hfd : (kFnd v hf n len ll pen) ≤ 60 := by have := (kFnd_ok (v := v) (hf := hf) (len := len) (ll := ll) (pen := pen) hn).2.1; omega
  rcases kin_two (xs (3 * i + 1)) (nI 0) (nI (kFnd v hf n len ll pen) - nI 1) with hb | hb
  · exact t_levelOf_k E hi hrc hrs kk hok h6 h7 hP hD hS hl rfl hb
  · obtain ⟨k, ek, -, hk⟩ := kin_up hfd (Nat.zero_le 60) hb
    exact t_levelOf_ok E hi hrc hrs kk hok h6 h7 hP hD hS hl ek hk
theorem u_costCutAt {p : Program} {l : Launch} {e : Env} {s : State} {m : MethodId} {below : List Frame} {meth : Method} {c : Code} {Q : State → Prop} {D : va_G} {cI cZ cJ : ClassId} {b L i cells slots : Nat} {xs : Nat → Int32} {H : Heap} {locs : List Loc} {ls : Array Slot} (E : lwE p l s m c D cI cZ cJ b L xs) (hi : 3 * i + 3 ≤ L) (hrc : cells + 1 ≤ room_1.cells) (hrs : slots + 6 ≤ room_1.slots) (kk : ∀ (H : Heap) (locs : List Loc) (ls : Array Slot), lwI s D cI cZ cJ b i H locs ls → W p l e room_1 s m #[Value.ref b] below meth c H locs (cells + 1) (slots + 6) Q (F0 m 1285 ls [])) (I : lwI s D cI cZ cJ b i H locs ls) : W p l e room_1 s m #[Value.ref b] below meth c H locs cells slots Q (F0 m 996 ls []) := by
  obtain ⟨v, hf, n, len, ll, pen, bf, bl, th, o6, o7, fo, fo9, w6, w7, hok, h6, h7, hP, hD, hS, hl⟩ := I
  have hn : n ≤ 60 := hok.1
  rcases kin_two (xs (3 * i + 1)) (nI 1) (nI n - nI 1) with hb | hb
  · exact t_costCutAt_k E hi hrc hrs kk hok h6 h7 hP hD hS hl rfl hb
  · obtain ⟨k, ek, g1, g2⟩ := kin_up hn (by decide) hb
    by_cases q : ll ≤ k ∧ ll ≤ n - k
    · exact t_costCutAt_ok E hi hrc hrs kk hok h6 h7 hP hD hS hl ek g1 g2 q.1 q.2
    · exact t_costCutAt_s E hi hrc hrs kk hok h6 h7 hP hD hS hl ek g1 g2 (by omega)
theorem u_leastCost {p : Program} {l : Launch} {e : Env} {s : State} {m : MethodId} {below : List Frame} {meth : Method} {c : Code} {Q : State → Prop} {D : va_G} {cI cZ cJ : ClassId} {b L i cells slots : Nat} {xs : Nat → Int32} {H : Heap} {locs : List Loc} {ls : Array Slot} (E : lwE p l s m c D cI cZ cJ b L xs) (hi : 3 * i + 3 ≤ L) (hrc : cells + 1 ≤ room_1.cells) (hrs : slots + 6 ≤ room_1.slots) (kk : ∀ (H : Heap) (locs : List Loc) (ls : Array Slot), lwI s D cI cZ cJ b i H locs ls → W p l e room_1 s m #[Value.ref b] below meth c H locs (cells + 1) (slots + 6) Q (F0 m 1285 ls [])) (I : lwI s D cI cZ cJ b i H locs ls) : W p l e room_1 s m #[Value.ref b] below meth c H locs cells slots Q (F0 m 1052 ls []) := by
  obtain ⟨v, hf, n, len, ll, pen, bf, bl, th, o6, o7, fo, fo9, w6, w7, hok, h6, h7, hP, hD, hS, hl⟩ := I
  have hn : n ≤ 60 := hok.1
  by_cases q : n ≤ 14
  · by_cases q0 : n = 0
    · exact t_leastCost_0 E hi hrc hrs kk hok h6 h7 hP hD hS hl q0
    · exact t_leastCost_ok E hi hrc hrs kk hok h6 h7 hP hD hS hl q (by omega)
  · exact t_leastCost_n E hi hrc hrs kk hok h6 h7 hP hD hS hl (by omega)
theorem law_loop {p : Program} {l : Launch} {e : Env} {s : State} {m : MethodId} {below : List Frame} {meth : Method} {c : Code} {D : va_G} {cI cZ cJ : ClassId} {b L : Nat} {xs : Nat → Int32} (E0 : lwE p l s m c D cI cZ cJ b L xs) (hr : meth.sig.returnType = ret) (hlocks : meth.locks = false) :
    ∀ (d i cells slots : Nat) (H : Heap) (locs : List Loc) (ls : Array Slot), L + 3 ≤ 3 * (i + d) → 3 * i ≤ L + 2 → cells + d ≤ room_1.cells → slots + 6 * d ≤ room_1.slots → lwI s D cI cZ cJ b i H locs ls → W p l e room_1 s m #[Value.ref b] below meth c H locs cells slots (lw_Z below #[Value.ref b] s) (F0 m 23 ls []) := by
  obtain ⟨hx, hb, hml, hown, hts, hX, hbl, hK, hE, hlf, hL⟩ := id E0
  have hA : ∀ q : Nat, s.heap.size ≤ q → lwA s q := fun _ h => h
  have hbA : ¬ lwA s b := Nat.not_le.mpr hbl
  intro d
  induction d with
  | zero =>
    intro i cells slots H locs ls h1 h2 h3 h4 I
    exact absurd h1 (by omega)
  | succ d ih =>
    intro i cells slots H locs ls h1 h2 h3 h4 I
    obtain ⟨v, hf, n, len, ll, pen, bf, bl, th, o6, o7, fo, fo9, w6, w7, hok, h6, h7, hP, hD, hS, hl⟩ := id I
    have e3 : (nI L - nI 3).toInt = (L : Int) - 3 := by
      have h3 : (nI 3).toInt = 3 := rfl
      rw [fb_subI (by rw [nI_toInt (by omega), h3]; omega) (by rw [nI_toInt (by omega), h3]; omega), nI_toInt (by omega), h3]
    have e4 : (nI (3 * i)).toInt = 3 * (i : Int) := by rw [nI_toInt (by omega)]; omega
    refine lv_iload hx hb dL_law_23 (lv_at hl 4 rfl) ?_
    refine lv_aload_n hx hb dL_law_25 rfl (lv_at hl 0 rfl) ?_
    refine va_slen hx hb hX hbl hbA hS dL_law_26 ?_
    refine lv_iconst (v := nI 3) hx hb dL_law_27 (by decide) ?_
    refine lv_isub hx hb dL_law_28 ?_
    refine lv_icmp_gt (tgt := 1291) hx hb dL_law_29 (by decide) (fun c29 => ?_) (fun c29 => ?_)
    · refine lv_iconst (v := 1) hx hb dL_law_1291 (by decide) ?_
      refine va_forget (fun q hq => hS.2.2 q hq) ?_
      have r1 : room_1.cells = 601024 := rfl
      have r2 : room_1.slots = 7293034 := rfl
      refine W.widen (k := 601024) (n := 7293034) (by omega) (by omega) ?_
      exact lw_ret hx hb hr hlocks dL_law_1292
    · have hi3 : 3 * i + 3 ≤ L := by
        have c30 : ¬ (nI L - nI 3) < nI (3 * i) := c29
        rw [ki_lt, e3, e4] at c30
        omega
      have hrc1 : cells + 1 ≤ room_1.cells := by omega
      have hrs1 : slots + 6 ≤ room_1.slots := by omega
      have kk9 : ∀ (H : Heap) (locs : List Loc) (ls : Array Slot), lwI s D cI cZ cJ b i H locs ls → W p l e room_1 s m #[Value.ref b] below meth c H locs (cells + 1) (slots + 6) (lw_Z below #[Value.ref b] s) (F0 m 1285 ls []) := fun H locs ls I => by
        obtain ⟨v, hf, n, len, ll, pen, bf, bl, th, o6, o7, fo, fo9, w6, w7, hok, h6, h7, hP, hD, hS, hl⟩ := I
        refine lv_iinc (v := nI (3 * (i + 1))) (lv' := [(4, .int (nI (3 * (i + 1)))), (0, .ref b), (1, .ref o6), (2, .ref o7), (3, .ref fo)]) hx hb dL_law_1285 hl (k := 4) rfl (by exact nI_add (3 * i) 3) (by decide) rfl (fun ls hl => ?_)
        refine lv_goto (tgt := 23) hx hb dL_law_1288 (by decide) ?_
        exact ih (i + 1) (cells + 1) (slots + 6) _ _ _ (by omega) (by omega) (by omega) (by omega) ⟨v, hf, n, len, ll, pen, bf, bl, th, o6, o7, fo, fo9, w6, w7, hok, h6, h7, hP, hD, hS, lv_sub hl [1, 2, 3, 4, 0] rfl⟩
      refine lv_aload_n hx hb dL_law_32 rfl (lv_at hl 0 rfl) ?_
      refine lv_iload hx hb dL_law_33 (lv_at hl 4 rfl) ?_
      refine va_sld hx hb hX hbl hbA hS (vp_in_nI (n := 3 * i) (by omega) (by omega)) dL_law_35 ?_
      refine lv_bipush (v := nI 31) hx hb dL_law_36 (by decide) ?_
      refine lv_iand hx hb dL_law_38 ?_
      generalize xs (nI (3 * i)).toNatClampNeg &&& nI 31 = y
      by_cases hout : y.toInt < 0 ∨ 26 < y.toInt
      · refine lv_tableOut (tgt := 1285) hx hb dL_law_39 hout (by decide) ?_
        exact W.widen (k := cells + 1) (n := slots + 6) (by omega) (by omega) (kk9 _ _ _ I)
      · obtain ⟨j, hj, hj2⟩ : ∃ j : Nat, y.toInt = (j : Int) ∧ j < 27 := ⟨y.toInt.toNat, by omega, by omega⟩
        rcases (show j = 0 ∨ j = 1 ∨ j = 2 ∨ j = 3 ∨ j = 4 ∨ j = 5 ∨ j = 6 ∨ j = 7 ∨ j = 8 ∨ j = 9 ∨ j = 10 ∨ j = 11 ∨ j = 12 ∨ j = 13 ∨ j = 14 ∨ j = 15 ∨ j = 16 ∨ j = 17 ∨ j = 18 ∨ j = 19 ∨ j = 20 ∨ j = 21 ∨ j = 22 ∨ j = 23 ∨ j = 24 ∨ j = 25 ∨ j = 26 by omega) with rfl | rfl | rfl | rfl | rfl | rfl | rfl | rfl | rfl | rfl | rfl | rfl | rfl | rfl | rfl | rfl | rfl | rfl | rfl | rfl | rfl | rfl | rfl | rfl | rfl | rfl | rfl
        · exact lv_tableIn (tgt := 160) (off := 121) hx hb dL_law_39 (by rw [hj]; decide) (by rw [hj]; decide) (by rw [hj]; rfl) (by decide) (u_add E0 hi3 hrc1 hrs1 kk9 I)
        · exact lv_tableIn (tgt := 216) (off := 177) hx hb dL_law_39 (by rw [hj]; decide) (by rw [hj]; decide) (by rw [hj]; rfl) (by decide) (u_addMany E0 hi3 hrc1 hrs1 kk9 I)
        · exact lv_tableIn (tgt := 284) (off := 245) hx hb dL_law_39 (by rw [hj]; decide) (by rw [hj]; decide) (by rw [hj]; rfl) (by decide) (u_correct E0 hi3 hrc1 hrs1 kk9 I)
        · exact lv_tableIn (tgt := 352) (off := 313) hx hb dL_law_39 (by rw [hj]; decide) (by rw [hj]; decide) (by rw [hj]; rfl) (by decide) (u_setHoliday E0 hi3 hrc1 hrs1 kk9 I)
        · exact lv_tableIn (tgt := 443) (off := 404) hx hb dL_law_39 (by rw [hj]; decide) (by rw [hj]; decide) (by rw [hj]; rfl) (by decide) (u_drop E0 hi3 hrc1 hrs1 kk9 I)
        · exact lv_tableIn (tgt := 499) (off := 460) hx hb dL_law_39 (by rw [hj]; decide) (by rw [hj]; decide) (by rw [hj]; rfl) (by decide) (u_setSeason E0 hi3 hrc1 hrs1 kk9 I)
        · exact lv_tableIn (tgt := 555) (off := 516) hx hb dL_law_39 (by rw [hj]; decide) (by rw [hj]; decide) (by rw [hj]; rfl) (by decide) (u_setCuts E0 hi3 hrc1 hrs1 kk9 I)
        · exact lv_tableIn (tgt := 603) (off := 564) hx hb dL_law_39 (by rw [hj]; decide) (by rw [hj]; decide) (by rw [hj]; rfl) (by decide) (u_setBound E0 hi3 hrc1 hrs1 kk9 I)
        · exact lv_tableIn (tgt := 651) (off := 612) hx hb dL_law_39 (by rw [hj]; decide) (by rw [hj]; decide) (by rw [hj]; rfl) (by decide) (u_size E0 hi3 hrc1 hrs1 kk9 I)
        · exact lv_tableIn (tgt := 664) (off := 625) hx hb dL_law_39 (by rw [hj]; decide) (by rw [hj]; decide) (by rw [hj]; rfl) (by decide) (u_value E0 hi3 hrc1 hrs1 kk9 I)
        · exact lv_tableIn (tgt := 720) (off := 681) hx hb dL_law_39 (by rw [hj]; decide) (by rw [hj]; decide) (by rw [hj]; rfl) (by decide) (u_base E0 hi3 hrc1 hrs1 kk9 I)
        · exact lv_tableIn (tgt := 733) (off := 694) hx hb dL_law_39 (by rw [hj]; decide) (by rw [hj]; decide) (by rw [hj]; rfl) (by decide) (u_season E0 hi3 hrc1 hrs1 kk9 I)
        · exact lv_tableIn (tgt := 789) (off := 750) hx hb dL_law_39 (by rw [hj]; decide) (by rw [hj]; decide) (by rw [hj]; rfl) (by decide) (u_adjusted E0 hi3 hrc1 hrs1 kk9 I)
        · exact lv_tableIn (tgt := 845) (off := 806) hx hb dL_law_39 (by rw [hj]; decide) (by rw [hj]; decide) (by rw [hj]; rfl) (by decide) (u_segments E0 hi3 hrc1 hrs1 kk9 I)
        · exact lv_tableIn (tgt := 858) (off := 819) hx hb dL_law_39 (by rw [hj]; decide) (by rw [hj]; decide) (by rw [hj]; rfl) (by decide) (u_startOf E0 hi3 hrc1 hrs1 kk9 I)
        · exact lv_tableIn (tgt := 914) (off := 875) hx hb dL_law_39 (by rw [hj]; decide) (by rw [hj]; decide) (by rw [hj]; rfl) (by decide) (u_levelOf E0 hi3 hrc1 hrs1 kk9 I)
        · exact lv_tableIn (tgt := 970) (off := 931) hx hb dL_law_39 (by rw [hj]; decide) (by rw [hj]; decide) (by rw [hj]; rfl) (by decide) (u_cost E0 hi3 hrc1 hrs1 kk9 I)
        · exact lv_tableIn (tgt := 983) (off := 944) hx hb dL_law_39 (by rw [hj]; decide) (by rw [hj]; decide) (by rw [hj]; rfl) (by decide) (u_costUncut E0 hi3 hrc1 hrs1 kk9 I)
        · exact lv_tableIn (tgt := 996) (off := 957) hx hb dL_law_39 (by rw [hj]; decide) (by rw [hj]; decide) (by rw [hj]; rfl) (by decide) (u_costCutAt E0 hi3 hrc1 hrs1 kk9 I)
        · exact lv_tableIn (tgt := 1052) (off := 1013) hx hb dL_law_39 (by rw [hj]; decide) (by rw [hj]; decide) (by rw [hj]; rfl) (by decide) (u_leastCost E0 hi3 hrc1 hrs1 kk9 I)
        · exact lv_tableIn (tgt := 1096) (off := 1057) hx hb dL_law_39 (by rw [hj]; decide) (by rw [hj]; decide) (by rw [hj]; rfl) (by decide) (u_residual E0 hi3 hrc1 hrs1 kk9 I)
        · exact lv_tableIn (tgt := 1152) (off := 1113) hx hb dL_law_39 (by rw [hj]; decide) (by rw [hj]; decide) (by rw [hj]; rfl) (by decide) (u_deviation E0 hi3 hrc1 hrs1 kk9 I)
        · exact lv_tableIn (tgt := 1165) (off := 1126) hx hb dL_law_39 (by rw [hj]; decide) (by rw [hj]; decide) (by rw [hj]; rfl) (by decide) (u_bound E0 hi3 hrc1 hrs1 kk9 I)
        · exact lv_tableIn (tgt := 1178) (off := 1139) hx hb dL_law_39 (by rw [hj]; decide) (by rw [hj]; decide) (by rw [hj]; rfl) (by decide) (u_verdict E0 hi3 hrc1 hrs1 kk9 I)
        · exact lv_tableIn (tgt := 1234) (off := 1195) hx hb dL_law_39 (by rw [hj]; decide) (by rw [hj]; decide) (by rw [hj]; rfl) (by decide) (u_anomalies E0 hi3 hrc1 hrs1 kk9 I)
        · exact lv_tableIn (tgt := 1247) (off := 1208) hx hb dL_law_39 (by rw [hj]; decide) (by rw [hj]; decide) (by rw [hj]; rfl) (by decide) (u_expected E0 hi3 hrc1 hrs1 kk9 I)
        · exact lv_tableIn (tgt := 1260) (off := 1221) hx hb dL_law_39 (by rw [hj]; decide) (by rw [hj]; decide) (by rw [hj]; rfl) (by decide) (u_judge E0 hi3 hrc1 hrs1 kk9 I)

def fX2_isKnown (x1 : Int32) (M : Mem) : Res :=
  (if x1 < 0 then some ((0 : Int32), M) else (if (M 14 5) ≤ x1 then some ((0 : Int32), M) else some ((1 : Int32), M)))
theorem calX2_isKnown : Cal yX2_isKnown cX2_isKnown 2 (some .boolean) 1 := ⟨(mU2 183 rfl rfl), (mU1 6 rfl rfl), by decide +kernel⟩
theorem cavX2_isKnown : CalV yX2_isKnown := ⟨(mU2 181 rfl rfl), (mU2 182 rfl rfl)⟩
set_option maxHeartbeats 4000000 in
set_option maxRecDepth 100000 in
theorem kX2_isKnown_0 {p : Program} {l : Launch} {e : Env} {s : State} {m : MethodId} {args : Array Value} {below : List Frame} {meth : Method} {c : Code} {D : va_G} {cI cZ : ClassId} {a : Nat → Nat} {A : Nat → Prop} {r : Int32} {M' : Mem} (C : Cx p s m args meth c cX2_isKnown 2 RX2 (some .boolean) D cI cZ A)  (x1 : Int32) (M : Mem) (H : Heap) (locs : List Loc) (ls : Array Slot) (hf : fX2_isKnown x1 M = some (r, M')) (hst : St D (wB cI cZ a) A s.heap H locs M) (hl : lv_has ls 2 [(0, .ref (a 14)), (1, .int x1)]) : Wi p l e { frames := 0, cells := 0, slots := 0, locals := 0 } s m args below meth c D (wB cI cZ a) A r M' H locs (F0 m 0 ls []) := by
  unfold fX2_isKnown at hf
  obtain ⟨hx, hb, hml, hown, hU, hr, hlk, hK, hA⟩ := id C
  refine lv_iload_n hx hb dX2_isKnown_0 rfl (lv_at hl 1 rfl) ?_
  refine lv_if_lt (tgt := 16) hx hb dX2_isKnown_1 (by decide) (fun c_1 => ?_) (fun c_1 => ?_)
  · have hf := ifp c_1 hf
    refine lv_iconst (v := 0) hx hb dX2_isKnown_16 (by decide) ?_
    obtain ⟨e1, e2⟩ := sinj hf
    subst e1
    subst e2
    exact w_zret C rfl hst dX2_isKnown_17
  · have hf := ifn c_1 hf
    refine lv_iload_n hx hb dX2_isKnown_4 rfl (lv_at hl 1 rfl) ?_
    refine lv_aload_n hx hb dX2_isKnown_5 rfl (lv_at hl 0 rfl) ?_
    refine gf_X2_28 C hst dX2_isKnown_6 ?_
    refine lv_icmp_ge (tgt := 16) hx hb dX2_isKnown_9 (by decide) (fun c_9 => ?_) (fun c_9 => ?_)
    · have hf := ifp c_9 hf
      refine lv_iconst (v := 0) hx hb dX2_isKnown_16 (by decide) ?_
      obtain ⟨e1, e2⟩ := sinj hf
      subst e1
      subst e2
      exact w_zret C rfl hst dX2_isKnown_17
    · have hf := ifn c_9 hf
      refine lv_iconst (v := 1) hx hb dX2_isKnown_12 (by decide) ?_
      refine lv_goto (tgt := 17) hx hb dX2_isKnown_13 (by decide) ?_
      obtain ⟨e1, e2⟩ := sinj hf
      subst e1
      subst e2
      exact w_zret C rfl hst dX2_isKnown_17
set_option maxRecDepth 100000 in
theorem mX2_isKnown (l : Launch) (D : va_G) (cI cZ : ClassId) (a : Nat → Nat) (x1 : Int32) (M : Mem) (r : Int32) (M' : Mem) (hf : fX2_isKnown x1 M = some (r, M')) : MI l D cI cZ (wB cI cZ a) yX2_isKnown cX2_isKnown 2 (some .boolean) 0 0 [.ref (a 14), .int x1] M r M' :=
  MI.of (by decide) (Nat.le_of_ble_eq_true rfl) (fun p e s m args below meth c A C hst ls hl => kX2_isKnown_0 C x1 M s.heap [] ls hf hst hl)

def fX2_count (M : Mem) : Res :=
  some ((M 14 5), M)
theorem calX2_count : Cal yX2_count cX2_count 1 (some .int) 0 := ⟨(mU2 126 rfl rfl), (mU1 6 rfl rfl), by decide +kernel⟩
theorem cavX2_count : CalV yX2_count := ⟨(mU2 124 rfl rfl), (mU2 125 rfl rfl)⟩
set_option maxHeartbeats 4000000 in
set_option maxRecDepth 100000 in
theorem kX2_count_0 {p : Program} {l : Launch} {e : Env} {s : State} {m : MethodId} {args : Array Value} {below : List Frame} {meth : Method} {c : Code} {D : va_G} {cI cZ : ClassId} {a : Nat → Nat} {A : Nat → Prop} {r : Int32} {M' : Mem} (C : Cx p s m args meth c cX2_count 1 RX2 (some .int) D cI cZ A)  (M : Mem) (H : Heap) (locs : List Loc) (ls : Array Slot) (hf : fX2_count M = some (r, M')) (hst : St D (wB cI cZ a) A s.heap H locs M) (hl : lv_has ls 1 [(0, .ref (a 14))]) : Wi p l e { frames := 0, cells := 0, slots := 0, locals := 0 } s m args below meth c D (wB cI cZ a) A r M' H locs (F0 m 0 ls []) := by
  unfold fX2_count at hf
  obtain ⟨hx, hb, hml, hown, hU, hr, hlk, hK, hA⟩ := id C
  refine lv_aload_n hx hb dX2_count_0 rfl (lv_at hl 0 rfl) ?_
  refine gf_X2_28 C hst dX2_count_1 ?_
  obtain ⟨e1, e2⟩ := sinj hf
  subst e1
  subst e2
  exact w_iret C hst dX2_count_4
set_option maxRecDepth 100000 in
theorem mX2_count (l : Launch) (D : va_G) (cI cZ : ClassId) (a : Nat → Nat) (M : Mem) (r : Int32) (M' : Mem) (hf : fX2_count  M = some (r, M')) : MI l D cI cZ (wB cI cZ a) yX2_count cX2_count 1 (some .int) 0 0 [.ref (a 14)] M r M' :=
  MI.of (by decide) (Nat.le_of_ble_eq_true rfl) (fun p e s m args below meth c A C hst ls hl => kX2_count_0 C  M s.heap [] ls hf hst hl)

def gX2_openCount_24 (K4 : Int32 → Int32 → Mem → Res) (x1 x2 : Int32) (M : Mem) : Res :=
  K4 x1 (x2 + 1) M
def gX2_openCount_4 (K4 : Int32 → Int32 → Mem → Res) (x1 x2 : Int32) (M : Mem) : Res :=
  (if (M 14 5) ≤ x2 then some (x1, M) else if x2 < 0 ∨ 100 ≤ Int32.toNatClampNeg x2 then none else (if (M 19 (Int32.toNatClampNeg x2)) = 0 then gX2_openCount_24 K4 x1 x2 M else gX2_openCount_24 K4 (x1 + 1) x2 M))
def lX2_openCount_4 : Nat → Int32 → Int32 → Mem → Res
  | 0, _, _, _ => none
  | n + 1, x1, x2, M => gX2_openCount_4 (lX2_openCount_4 n) x1 x2 M
def fX2_openCount (M : Mem) : Res :=
  lX2_openCount_4  fu (0 : Int32) (0 : Int32) M
theorem calX2_openCount : Cal yX2_openCount cX2_openCount 3 (some .int) 0 := ⟨(mU2 130 rfl rfl), (mU1 6 rfl rfl), by decide +kernel⟩
theorem cavX2_openCount : CalV yX2_openCount := ⟨(mU2 128 rfl rfl), (mU2 129 rfl rfl)⟩
set_option maxHeartbeats 4000000 in
set_option maxRecDepth 100000 in
theorem kX2_openCount_24 {p : Program} {l : Launch} {e : Env} {s : State} {m : MethodId} {args : Array Value} {below : List Frame} {meth : Method} {c : Code} {D : va_G} {cI cZ : ClassId} {a : Nat → Nat} {A : Nat → Prop} {r : Int32} {M' : Mem} (C : Cx p s m args meth c cX2_openCount 3 RX2 (some .int) D cI cZ A) (K4 : Int32 → Int32 → Mem → Res) (hK4 : ∀ (x1 x2 : Int32) (M : Mem) (H : Heap) (locs : List Loc) (ls : Array Slot), K4 x1 x2 M = some (r, M') → St D (wB cI cZ a) A s.heap H locs M → lv_has ls 3 [(0, .ref (a 14)), (1, .int x1), (2, .int x2)] → Wi p l e { frames := 0, cells := 0, slots := 0, locals := 0 } s m args below meth c D (wB cI cZ a) A r M' H locs (F0 m 4 ls [])) (x1 x2 : Int32) (M : Mem) (H : Heap) (locs : List Loc) (ls : Array Slot) (hf : gX2_openCount_24 K4 x1 x2 M = some (r, M')) (hst : St D (wB cI cZ a) A s.heap H locs M) (hl : lv_has ls 3 [(0, .ref (a 14)), (1, .int x1), (2, .int x2)]) : Wi p l e { frames := 0, cells := 0, slots := 0, locals := 0 } s m args below meth c D (wB cI cZ a) A r M' H locs (F0 m 24 ls []) := by
  unfold gX2_openCount_24 at hf
  obtain ⟨hx, hb, hml, hown, hU, hr, hlk, hK, hA⟩ := id C
  refine lv_iinc (v := (x2 + 1)) (lv' := [(2, .int (x2 + 1)), (0, .ref (a 14)), (1, .int x1)]) hx hb dX2_openCount_24 hl (k := 2) rfl rfl (by decide) rfl (fun ls hl => ?_)
  refine lv_goto (tgt := 4) hx hb dX2_openCount_27 (by decide) ?_
  exact hK4 x1 (x2 + 1) M _ _ _ hf hst (lv_sub hl [1, 2, 0] rfl)
set_option maxHeartbeats 4000000 in
set_option maxRecDepth 100000 in
theorem kX2_openCount_4 {p : Program} {l : Launch} {e : Env} {s : State} {m : MethodId} {args : Array Value} {below : List Frame} {meth : Method} {c : Code} {D : va_G} {cI cZ : ClassId} {a : Nat → Nat} {A : Nat → Prop} {r : Int32} {M' : Mem} (C : Cx p s m args meth c cX2_openCount 3 RX2 (some .int) D cI cZ A) (K4 : Int32 → Int32 → Mem → Res) (hK4 : ∀ (x1 x2 : Int32) (M : Mem) (H : Heap) (locs : List Loc) (ls : Array Slot), K4 x1 x2 M = some (r, M') → St D (wB cI cZ a) A s.heap H locs M → lv_has ls 3 [(0, .ref (a 14)), (1, .int x1), (2, .int x2)] → Wi p l e { frames := 0, cells := 0, slots := 0, locals := 0 } s m args below meth c D (wB cI cZ a) A r M' H locs (F0 m 4 ls [])) (x1 x2 : Int32) (M : Mem) (H : Heap) (locs : List Loc) (ls : Array Slot) (hf : gX2_openCount_4 K4 x1 x2 M = some (r, M')) (hst : St D (wB cI cZ a) A s.heap H locs M) (hl : lv_has ls 3 [(0, .ref (a 14)), (1, .int x1), (2, .int x2)]) : Wi p l e { frames := 0, cells := 0, slots := 0, locals := 0 } s m args below meth c D (wB cI cZ a) A r M' H locs (F0 m 4 ls []) := by
  unfold gX2_openCount_4 at hf
  obtain ⟨hx, hb, hml, hown, hU, hr, hlk, hK, hA⟩ := id C
  refine lv_iload_n hx hb dX2_openCount_4 rfl (lv_at hl 2 rfl) ?_
  refine lv_aload_n hx hb dX2_openCount_5 rfl (lv_at hl 0 rfl) ?_
  refine gf_X2_28 C hst dX2_openCount_6 ?_
  refine lv_icmp_ge (tgt := 30) hx hb dX2_openCount_9 (by decide) (fun c_9 => ?_) (fun c_9 => ?_)
  · have hf := ifp c_9 hf
    refine lv_iload_n hx hb dX2_openCount_30 rfl (lv_at hl 1 rfl) ?_
    obtain ⟨e1, e2⟩ := sinj hf
    subst e1
    subst e2
    exact w_iret C hst dX2_openCount_31
  · have hf := ifn c_9 hf
    refine lv_aload_n hx hb dX2_openCount_12 rfl (lv_at hl 0 rfl) ?_
    refine gf_X2_24 C hst dX2_openCount_13 ?_
    refine lv_iload_n hx hb dX2_openCount_16 rfl (lv_at hl 2 rfl) ?_
    obtain ⟨h_17, hf⟩ := og hf
    refine w_zald (N := 100) (f := M 19) C hst 19 rfl h_17 dX2_openCount_17 ?_
    refine lv_if_eq (tgt := 24) hx hb dX2_openCount_18 (by decide) (fun c_18 => ?_) (fun c_18 => ?_)
    · have hf := ifp c_18 hf
      exact kX2_openCount_24 C K4 hK4 x1 x2 M _ _ _ hf hst (lv_sub hl [0, 1, 2] rfl)
    · have hf := ifn c_18 hf
      refine lv_iinc (v := (x1 + 1)) (lv' := [(1, .int (x1 + 1)), (0, .ref (a 14)), (2, .int x2)]) hx hb dX2_openCount_21 hl (k := 1) rfl rfl (by decide) rfl (fun ls hl => ?_)
      exact kX2_openCount_24 C K4 hK4 (x1 + 1) x2 M _ _ _ hf hst (lv_sub hl [1, 0, 2] rfl)
theorem tX2_openCount_4 {p : Program} {l : Launch} {e : Env} {s : State} {m : MethodId} {args : Array Value} {below : List Frame} {meth : Method} {c : Code} {D : va_G} {cI cZ : ClassId} {a : Nat → Nat} {A : Nat → Prop} {r : Int32} {M' : Mem} (C : Cx p s m args meth c cX2_openCount 3 RX2 (some .int) D cI cZ A)  : ∀ (n : Nat) (x1 x2 : Int32) (M : Mem) (H : Heap) (locs : List Loc) (ls : Array Slot), lX2_openCount_4 n x1 x2 M = some (r, M') → St D (wB cI cZ a) A s.heap H locs M → lv_has ls 3 [(0, .ref (a 14)), (1, .int x1), (2, .int x2)] → Wi p l e { frames := 0, cells := 0, slots := 0, locals := 0 } s m args below meth c D (wB cI cZ a) A r M' H locs (F0 m 4 ls []) := by
  intro n
  induction n with
  | zero =>
    intro x1 x2 M H locs ls hf
    exact nomatch (show (none : Res) = some (r, M') from hf)
  | succ n ih =>
    intro x1 x2 M H locs ls hf hst hl
    exact kX2_openCount_4 C (lX2_openCount_4 n) ih x1 x2 M H locs ls hf hst hl

set_option maxHeartbeats 4000000 in
set_option maxRecDepth 100000 in
theorem kX2_openCount_0 {p : Program} {l : Launch} {e : Env} {s : State} {m : MethodId} {args : Array Value} {below : List Frame} {meth : Method} {c : Code} {D : va_G} {cI cZ : ClassId} {a : Nat → Nat} {A : Nat → Prop} {r : Int32} {M' : Mem} (C : Cx p s m args meth c cX2_openCount 3 RX2 (some .int) D cI cZ A)  (M : Mem) (H : Heap) (locs : List Loc) (ls : Array Slot) (hf : fX2_openCount M = some (r, M')) (hst : St D (wB cI cZ a) A s.heap H locs M) (hl : lv_has ls 3 [(0, .ref (a 14))]) : Wi p l e { frames := 0, cells := 0, slots := 0, locals := 0 } s m args below meth c D (wB cI cZ a) A r M' H locs (F0 m 0 ls []) := by
  unfold fX2_openCount at hf
  obtain ⟨hx, hb, hml, hown, hU, hr, hlk, hK, hA⟩ := id C
  refine lv_iconst (v := 0) hx hb dX2_openCount_0 (by decide) ?_
  refine lv_istore_n (lv' := [(1, .int (0 : Int32)), (0, .ref (a 14))]) hx hb dX2_openCount_1 rfl hl (by decide) rfl (fun ls hl => ?_)
  refine lv_iconst (v := 0) hx hb dX2_openCount_2 (by decide) ?_
  refine lv_istore_n (lv' := [(2, .int (0 : Int32)), (1, .int (0 : Int32)), (0, .ref (a 14))]) hx hb dX2_openCount_3 rfl hl (by decide) rfl (fun ls hl => ?_)
  exact tX2_openCount_4 C  fu (0 : Int32) (0 : Int32) M _ _ _ hf hst (lv_sub hl [2, 1, 0] rfl)
set_option maxRecDepth 100000 in
theorem mX2_openCount (l : Launch) (D : va_G) (cI cZ : ClassId) (a : Nat → Nat) (M : Mem) (r : Int32) (M' : Mem) (hf : fX2_openCount  M = some (r, M')) : MI l D cI cZ (wB cI cZ a) yX2_openCount cX2_openCount 3 (some .int) 0 0 [.ref (a 14)] M r M' :=
  MI.of (by decide) (Nat.le_of_ble_eq_true rfl) (fun p e s m args below meth c A C hst ls hl => kX2_openCount_0 C  M s.heap [] ls hf hst hl)

def fX2_serviceOf (x1 : Int32) (M : Mem) : Res :=
  if x1 < 0 ∨ 100 ≤ Int32.toNatClampNeg x1 then none else some ((M 15 (Int32.toNatClampNeg x1)), M)
theorem calX2_serviceOf : Cal yX2_serviceOf cX2_serviceOf 2 (some .int) 1 := ⟨(mU2 187 rfl rfl), (mU1 6 rfl rfl), by decide +kernel⟩
theorem cavX2_serviceOf : CalV yX2_serviceOf := ⟨(mU2 185 rfl rfl), (mU2 186 rfl rfl)⟩
set_option maxHeartbeats 4000000 in
set_option maxRecDepth 100000 in
theorem kX2_serviceOf_0 {p : Program} {l : Launch} {e : Env} {s : State} {m : MethodId} {args : Array Value} {below : List Frame} {meth : Method} {c : Code} {D : va_G} {cI cZ : ClassId} {a : Nat → Nat} {A : Nat → Prop} {r : Int32} {M' : Mem} (C : Cx p s m args meth c cX2_serviceOf 2 RX2 (some .int) D cI cZ A)  (x1 : Int32) (M : Mem) (H : Heap) (locs : List Loc) (ls : Array Slot) (hf : fX2_serviceOf x1 M = some (r, M')) (hst : St D (wB cI cZ a) A s.heap H locs M) (hl : lv_has ls 2 [(0, .ref (a 14)), (1, .int x1)]) : Wi p l e { frames := 0, cells := 0, slots := 0, locals := 0 } s m args below meth c D (wB cI cZ a) A r M' H locs (F0 m 0 ls []) := by
  unfold fX2_serviceOf at hf
  obtain ⟨hx, hb, hml, hown, hU, hr, hlk, hK, hA⟩ := id C
  refine lv_aload_n hx hb dX2_serviceOf_0 rfl (lv_at hl 0 rfl) ?_
  refine gf_X2_9 C hst dX2_serviceOf_1 ?_
  refine lv_iload_n hx hb dX2_serviceOf_4 rfl (lv_at hl 1 rfl) ?_
  obtain ⟨h_5, hf⟩ := og hf
  refine w_iald (N := 100) (f := M 15) C hst 15 rfl h_5 dX2_serviceOf_5 ?_
  obtain ⟨e1, e2⟩ := sinj hf
  subst e1
  subst e2
  exact w_iret C hst dX2_serviceOf_6
set_option maxRecDepth 100000 in
theorem mX2_serviceOf (l : Launch) (D : va_G) (cI cZ : ClassId) (a : Nat → Nat) (x1 : Int32) (M : Mem) (r : Int32) (M' : Mem) (hf : fX2_serviceOf x1 M = some (r, M')) : MI l D cI cZ (wB cI cZ a) yX2_serviceOf cX2_serviceOf 2 (some .int) 0 0 [.ref (a 14), .int x1] M r M' :=
  MI.of (by decide) (Nat.le_of_ble_eq_true rfl) (fun p e s m args below meth c A C hst ls hl => kX2_serviceOf_0 C x1 M s.heap [] ls hf hst hl)

def fX2_causeOf (x1 : Int32) (M : Mem) : Res :=
  if x1 < 0 ∨ 100 ≤ Int32.toNatClampNeg x1 then none else some ((M 16 (Int32.toNatClampNeg x1)), M)
theorem calX2_causeOf : Cal yX2_causeOf cX2_causeOf 2 (some .int) 1 := ⟨(mU2 191 rfl rfl), (mU1 6 rfl rfl), by decide +kernel⟩
theorem cavX2_causeOf : CalV yX2_causeOf := ⟨(mU2 189 rfl rfl), (mU2 190 rfl rfl)⟩
set_option maxHeartbeats 4000000 in
set_option maxRecDepth 100000 in
theorem kX2_causeOf_0 {p : Program} {l : Launch} {e : Env} {s : State} {m : MethodId} {args : Array Value} {below : List Frame} {meth : Method} {c : Code} {D : va_G} {cI cZ : ClassId} {a : Nat → Nat} {A : Nat → Prop} {r : Int32} {M' : Mem} (C : Cx p s m args meth c cX2_causeOf 2 RX2 (some .int) D cI cZ A)  (x1 : Int32) (M : Mem) (H : Heap) (locs : List Loc) (ls : Array Slot) (hf : fX2_causeOf x1 M = some (r, M')) (hst : St D (wB cI cZ a) A s.heap H locs M) (hl : lv_has ls 2 [(0, .ref (a 14)), (1, .int x1)]) : Wi p l e { frames := 0, cells := 0, slots := 0, locals := 0 } s m args below meth c D (wB cI cZ a) A r M' H locs (F0 m 0 ls []) := by
  unfold fX2_causeOf at hf
  obtain ⟨hx, hb, hml, hown, hU, hr, hlk, hK, hA⟩ := id C
  refine lv_aload_n hx hb dX2_causeOf_0 rfl (lv_at hl 0 rfl) ?_
  refine gf_X2_15 C hst dX2_causeOf_1 ?_
  refine lv_iload_n hx hb dX2_causeOf_4 rfl (lv_at hl 1 rfl) ?_
  obtain ⟨h_5, hf⟩ := og hf
  refine w_iald (N := 100) (f := M 16) C hst 16 rfl h_5 dX2_causeOf_5 ?_
  obtain ⟨e1, e2⟩ := sinj hf
  subst e1
  subst e2
  exact w_iret C hst dX2_causeOf_6
set_option maxRecDepth 100000 in
theorem mX2_causeOf (l : Launch) (D : va_G) (cI cZ : ClassId) (a : Nat → Nat) (x1 : Int32) (M : Mem) (r : Int32) (M' : Mem) (hf : fX2_causeOf x1 M = some (r, M')) : MI l D cI cZ (wB cI cZ a) yX2_causeOf cX2_causeOf 2 (some .int) 0 0 [.ref (a 14), .int x1] M r M' :=
  MI.of (by decide) (Nat.le_of_ble_eq_true rfl) (fun p e s m args below meth c A C hst ls hl => kX2_causeOf_0 C x1 M s.heap [] ls hf hst hl)

def fX2_cameAt (x1 : Int32) (M : Mem) : Res :=
  if x1 < 0 ∨ 100 ≤ Int32.toNatClampNeg x1 then none else some ((M 17 (Int32.toNatClampNeg x1)), M)
theorem calX2_cameAt : Cal yX2_cameAt cX2_cameAt 2 (some .int) 1 := ⟨(mU2 195 rfl rfl), (mU1 6 rfl rfl), by decide +kernel⟩
theorem cavX2_cameAt : CalV yX2_cameAt := ⟨(mU2 193 rfl rfl), (mU2 194 rfl rfl)⟩
set_option maxHeartbeats 4000000 in
set_option maxRecDepth 100000 in
theorem kX2_cameAt_0 {p : Program} {l : Launch} {e : Env} {s : State} {m : MethodId} {args : Array Value} {below : List Frame} {meth : Method} {c : Code} {D : va_G} {cI cZ : ClassId} {a : Nat → Nat} {A : Nat → Prop} {r : Int32} {M' : Mem} (C : Cx p s m args meth c cX2_cameAt 2 RX2 (some .int) D cI cZ A)  (x1 : Int32) (M : Mem) (H : Heap) (locs : List Loc) (ls : Array Slot) (hf : fX2_cameAt x1 M = some (r, M')) (hst : St D (wB cI cZ a) A s.heap H locs M) (hl : lv_has ls 2 [(0, .ref (a 14)), (1, .int x1)]) : Wi p l e { frames := 0, cells := 0, slots := 0, locals := 0 } s m args below meth c D (wB cI cZ a) A r M' H locs (F0 m 0 ls []) := by
  unfold fX2_cameAt at hf
  obtain ⟨hx, hb, hml, hown, hU, hr, hlk, hK, hA⟩ := id C
  refine lv_aload_n hx hb dX2_cameAt_0 rfl (lv_at hl 0 rfl) ?_
  refine gf_X2_18 C hst dX2_cameAt_1 ?_
  refine lv_iload_n hx hb dX2_cameAt_4 rfl (lv_at hl 1 rfl) ?_
  obtain ⟨h_5, hf⟩ := og hf
  refine w_iald (N := 100) (f := M 17) C hst 17 rfl h_5 dX2_cameAt_5 ?_
  obtain ⟨e1, e2⟩ := sinj hf
  subst e1
  subst e2
  exact w_iret C hst dX2_cameAt_6
set_option maxRecDepth 100000 in
theorem mX2_cameAt (l : Launch) (D : va_G) (cI cZ : ClassId) (a : Nat → Nat) (x1 : Int32) (M : Mem) (r : Int32) (M' : Mem) (hf : fX2_cameAt x1 M = some (r, M')) : MI l D cI cZ (wB cI cZ a) yX2_cameAt cX2_cameAt 2 (some .int) 0 0 [.ref (a 14), .int x1] M r M' :=
  MI.of (by decide) (Nat.le_of_ble_eq_true rfl) (fun p e s m args below meth c A C hst ls hl => kX2_cameAt_0 C x1 M s.heap [] ls hf hst hl)

def fX2_lastAt (x1 : Int32) (M : Mem) : Res :=
  if x1 < 0 ∨ 100 ≤ Int32.toNatClampNeg x1 then none else some ((M 18 (Int32.toNatClampNeg x1)), M)
theorem calX2_lastAt : Cal yX2_lastAt cX2_lastAt 2 (some .int) 1 := ⟨(mU2 199 rfl rfl), (mU1 6 rfl rfl), by decide +kernel⟩
theorem cavX2_lastAt : CalV yX2_lastAt := ⟨(mU2 197 rfl rfl), (mU2 198 rfl rfl)⟩
set_option maxHeartbeats 4000000 in
set_option maxRecDepth 100000 in
theorem kX2_lastAt_0 {p : Program} {l : Launch} {e : Env} {s : State} {m : MethodId} {args : Array Value} {below : List Frame} {meth : Method} {c : Code} {D : va_G} {cI cZ : ClassId} {a : Nat → Nat} {A : Nat → Prop} {r : Int32} {M' : Mem} (C : Cx p s m args meth c cX2_lastAt 2 RX2 (some .int) D cI cZ A)  (x1 : Int32) (M : Mem) (H : Heap) (locs : List Loc) (ls : Array Slot) (hf : fX2_lastAt x1 M = some (r, M')) (hst : St D (wB cI cZ a) A s.heap H locs M) (hl : lv_has ls 2 [(0, .ref (a 14)), (1, .int x1)]) : Wi p l e { frames := 0, cells := 0, slots := 0, locals := 0 } s m args below meth c D (wB cI cZ a) A r M' H locs (F0 m 0 ls []) := by
  unfold fX2_lastAt at hf
  obtain ⟨hx, hb, hml, hown, hU, hr, hlk, hK, hA⟩ := id C
  refine lv_aload_n hx hb dX2_lastAt_0 rfl (lv_at hl 0 rfl) ?_
  refine gf_X2_21 C hst dX2_lastAt_1 ?_
  refine lv_iload_n hx hb dX2_lastAt_4 rfl (lv_at hl 1 rfl) ?_
  obtain ⟨h_5, hf⟩ := og hf
  refine w_iald (N := 100) (f := M 18) C hst 18 rfl h_5 dX2_lastAt_5 ?_
  obtain ⟨e1, e2⟩ := sinj hf
  subst e1
  subst e2
  exact w_iret C hst dX2_lastAt_6
set_option maxRecDepth 100000 in
theorem mX2_lastAt (l : Launch) (D : va_G) (cI cZ : ClassId) (a : Nat → Nat) (x1 : Int32) (M : Mem) (r : Int32) (M' : Mem) (hf : fX2_lastAt x1 M = some (r, M')) : MI l D cI cZ (wB cI cZ a) yX2_lastAt cX2_lastAt 2 (some .int) 0 0 [.ref (a 14), .int x1] M r M' :=
  MI.of (by decide) (Nat.le_of_ble_eq_true rfl) (fun p e s m args below meth c A C hst ls hl => kX2_lastAt_0 C x1 M s.heap [] ls hf hst hl)

def fX2_isOpen (x1 : Int32) (M : Mem) : Res :=
  if x1 < 0 ∨ 100 ≤ Int32.toNatClampNeg x1 then none else if ¬ ((M 19 (Int32.toNatClampNeg x1)) = 0 ∨ (M 19 (Int32.toNatClampNeg x1)) = 1) then none else some ((M 19 (Int32.toNatClampNeg x1)), M)
theorem calX2_isOpen : Cal yX2_isOpen cX2_isOpen 2 (some .boolean) 1 := ⟨(mU2 203 rfl rfl), (mU1 6 rfl rfl), by decide +kernel⟩
theorem cavX2_isOpen : CalV yX2_isOpen := ⟨(mU2 201 rfl rfl), (mU2 202 rfl rfl)⟩
set_option maxHeartbeats 4000000 in
set_option maxRecDepth 100000 in
theorem kX2_isOpen_0 {p : Program} {l : Launch} {e : Env} {s : State} {m : MethodId} {args : Array Value} {below : List Frame} {meth : Method} {c : Code} {D : va_G} {cI cZ : ClassId} {a : Nat → Nat} {A : Nat → Prop} {r : Int32} {M' : Mem} (C : Cx p s m args meth c cX2_isOpen 2 RX2 (some .boolean) D cI cZ A)  (x1 : Int32) (M : Mem) (H : Heap) (locs : List Loc) (ls : Array Slot) (hf : fX2_isOpen x1 M = some (r, M')) (hst : St D (wB cI cZ a) A s.heap H locs M) (hl : lv_has ls 2 [(0, .ref (a 14)), (1, .int x1)]) : Wi p l e { frames := 0, cells := 0, slots := 0, locals := 0 } s m args below meth c D (wB cI cZ a) A r M' H locs (F0 m 0 ls []) := by
  unfold fX2_isOpen at hf
  obtain ⟨hx, hb, hml, hown, hU, hr, hlk, hK, hA⟩ := id C
  refine lv_aload_n hx hb dX2_isOpen_0 rfl (lv_at hl 0 rfl) ?_
  refine gf_X2_24 C hst dX2_isOpen_1 ?_
  refine lv_iload_n hx hb dX2_isOpen_4 rfl (lv_at hl 1 rfl) ?_
  obtain ⟨h_5, hf⟩ := og hf
  refine w_zald (N := 100) (f := M 19) C hst 19 rfl h_5 dX2_isOpen_5 ?_
  obtain ⟨h_6, hf⟩ := og hf
  obtain ⟨e1, e2⟩ := sinj hf
  subst e1
  subst e2
  exact w_zret C (ng h_6) hst dX2_isOpen_6
set_option maxRecDepth 100000 in
theorem mX2_isOpen (l : Launch) (D : va_G) (cI cZ : ClassId) (a : Nat → Nat) (x1 : Int32) (M : Mem) (r : Int32) (M' : Mem) (hf : fX2_isOpen x1 M = some (r, M')) : MI l D cI cZ (wB cI cZ a) yX2_isOpen cX2_isOpen 2 (some .boolean) 0 0 [.ref (a 14), .int x1] M r M' :=
  MI.of (by decide) (Nat.le_of_ble_eq_true rfl) (fun p e s m args below meth c A C hst ls hl => kX2_isOpen_0 C x1 M s.heap [] ls hf hst hl)

def gX2_openFor_41 (K2 : Int32 → Int32 → Int32 → Mem → Res) (x1 x2 x3 : Int32) (M : Mem) : Res :=
  K2 x1 x2 (x3 + 1) M
def gX2_openFor_2 (K2 : Int32 → Int32 → Int32 → Mem → Res) (x1 x2 x3 : Int32) (M : Mem) : Res :=
  (if (M 14 5) ≤ x3 then some ((-1 : Int32), M) else if x3 < 0 ∨ 100 ≤ Int32.toNatClampNeg x3 then none else (if (M 19 (Int32.toNatClampNeg x3)) = 0 then gX2_openFor_41 K2 x1 x2 x3 M else (if (M 15 (Int32.toNatClampNeg x3)) = x1 then (if (M 16 (Int32.toNatClampNeg x3)) = x2 then some (x3, M) else gX2_openFor_41 K2 x1 x2 x3 M) else gX2_openFor_41 K2 x1 x2 x3 M)))
def lX2_openFor_2 : Nat → Int32 → Int32 → Int32 → Mem → Res
  | 0, _, _, _, _ => none
  | n + 1, x1, x2, x3, M => gX2_openFor_2 (lX2_openFor_2 n) x1 x2 x3 M
def fX2_openFor (x1 x2 : Int32) (M : Mem) : Res :=
  lX2_openFor_2  fu x1 x2 (0 : Int32) M
theorem calX2_openFor : Cal yX2_openFor cX2_openFor 4 (some .int) 2 := ⟨(mU2 98 rfl rfl), (mU1 6 rfl rfl), by decide +kernel⟩
theorem cavX2_openFor : CalV yX2_openFor := ⟨(mU2 97 rfl rfl), (mS1 5 rfl)⟩
set_option maxHeartbeats 4000000 in
set_option maxRecDepth 100000 in
theorem kX2_openFor_41 {p : Program} {l : Launch} {e : Env} {s : State} {m : MethodId} {args : Array Value} {below : List Frame} {meth : Method} {c : Code} {D : va_G} {cI cZ : ClassId} {a : Nat → Nat} {A : Nat → Prop} {r : Int32} {M' : Mem} (C : Cx p s m args meth c cX2_openFor 4 RX2 (some .int) D cI cZ A) (K2 : Int32 → Int32 → Int32 → Mem → Res) (hK2 : ∀ (x1 x2 x3 : Int32) (M : Mem) (H : Heap) (locs : List Loc) (ls : Array Slot), K2 x1 x2 x3 M = some (r, M') → St D (wB cI cZ a) A s.heap H locs M → lv_has ls 4 [(0, .ref (a 14)), (1, .int x1), (2, .int x2), (3, .int x3)] → Wi p l e { frames := 0, cells := 0, slots := 0, locals := 0 } s m args below meth c D (wB cI cZ a) A r M' H locs (F0 m 2 ls [])) (x1 x2 x3 : Int32) (M : Mem) (H : Heap) (locs : List Loc) (ls : Array Slot) (hf : gX2_openFor_41 K2 x1 x2 x3 M = some (r, M')) (hst : St D (wB cI cZ a) A s.heap H locs M) (hl : lv_has ls 4 [(0, .ref (a 14)), (1, .int x1), (2, .int x2), (3, .int x3)]) : Wi p l e { frames := 0, cells := 0, slots := 0, locals := 0 } s m args below meth c D (wB cI cZ a) A r M' H locs (F0 m 41 ls []) := by
  unfold gX2_openFor_41 at hf
  obtain ⟨hx, hb, hml, hown, hU, hr, hlk, hK, hA⟩ := id C
  refine lv_iinc (v := (x3 + 1)) (lv' := [(3, .int (x3 + 1)), (0, .ref (a 14)), (1, .int x1), (2, .int x2)]) hx hb dX2_openFor_41 hl (k := 3) rfl rfl (by decide) rfl (fun ls hl => ?_)
  refine lv_goto (tgt := 2) hx hb dX2_openFor_44 (by decide) ?_
  exact hK2 x1 x2 (x3 + 1) M _ _ _ hf hst (lv_sub hl [1, 2, 3, 0] rfl)
set_option maxHeartbeats 4000000 in
set_option maxRecDepth 100000 in
theorem kX2_openFor_2 {p : Program} {l : Launch} {e : Env} {s : State} {m : MethodId} {args : Array Value} {below : List Frame} {meth : Method} {c : Code} {D : va_G} {cI cZ : ClassId} {a : Nat → Nat} {A : Nat → Prop} {r : Int32} {M' : Mem} (C : Cx p s m args meth c cX2_openFor 4 RX2 (some .int) D cI cZ A) (K2 : Int32 → Int32 → Int32 → Mem → Res) (hK2 : ∀ (x1 x2 x3 : Int32) (M : Mem) (H : Heap) (locs : List Loc) (ls : Array Slot), K2 x1 x2 x3 M = some (r, M') → St D (wB cI cZ a) A s.heap H locs M → lv_has ls 4 [(0, .ref (a 14)), (1, .int x1), (2, .int x2), (3, .int x3)] → Wi p l e { frames := 0, cells := 0, slots := 0, locals := 0 } s m args below meth c D (wB cI cZ a) A r M' H locs (F0 m 2 ls [])) (x1 x2 x3 : Int32) (M : Mem) (H : Heap) (locs : List Loc) (ls : Array Slot) (hf : gX2_openFor_2 K2 x1 x2 x3 M = some (r, M')) (hst : St D (wB cI cZ a) A s.heap H locs M) (hl : lv_has ls 4 [(0, .ref (a 14)), (1, .int x1), (2, .int x2), (3, .int x3)]) : Wi p l e { frames := 0, cells := 0, slots := 0, locals := 0 } s m args below meth c D (wB cI cZ a) A r M' H locs (F0 m 2 ls []) := by
  unfold gX2_openFor_2 at hf
  obtain ⟨hx, hb, hml, hown, hU, hr, hlk, hK, hA⟩ := id C
  refine lv_iload_n hx hb dX2_openFor_2 rfl (lv_at hl 3 rfl) ?_
  refine lv_aload_n hx hb dX2_openFor_3 rfl (lv_at hl 0 rfl) ?_
  refine gf_X2_28 C hst dX2_openFor_4 ?_
  refine lv_icmp_ge (tgt := 47) hx hb dX2_openFor_7 (by decide) (fun c_7 => ?_) (fun c_7 => ?_)
  · have hf := ifp c_7 hf
    refine lv_iconst (v := -1) hx hb dX2_openFor_47 (by decide) ?_
    obtain ⟨e1, e2⟩ := sinj hf
    subst e1
    subst e2
    exact w_iret C hst dX2_openFor_48
  · have hf := ifn c_7 hf
    refine lv_aload_n hx hb dX2_openFor_10 rfl (lv_at hl 0 rfl) ?_
    refine gf_X2_24 C hst dX2_openFor_11 ?_
    refine lv_iload_n hx hb dX2_openFor_14 rfl (lv_at hl 3 rfl) ?_
    obtain ⟨h_15, hf⟩ := og hf
    refine w_zald (N := 100) (f := M 19) C hst 19 rfl h_15 dX2_openFor_15 ?_
    refine lv_if_eq (tgt := 41) hx hb dX2_openFor_16 (by decide) (fun c_16 => ?_) (fun c_16 => ?_)
    · have hf := ifp c_16 hf
      exact kX2_openFor_41 C K2 hK2 x1 x2 x3 M _ _ _ hf hst (lv_sub hl [0, 1, 2, 3] rfl)
    · have hf := ifn c_16 hf
      refine lv_aload_n hx hb dX2_openFor_19 rfl (lv_at hl 0 rfl) ?_
      refine gf_X2_9 C hst dX2_openFor_20 ?_
      refine lv_iload_n hx hb dX2_openFor_23 rfl (lv_at hl 3 rfl) ?_
      refine w_iald (N := 100) (f := M 15) C hst 15 rfl h_15 dX2_openFor_24 ?_
      refine lv_iload_n hx hb dX2_openFor_25 rfl (lv_at hl 1 rfl) ?_
      refine lv_icmp_ne (tgt := 41) hx hb dX2_openFor_26 (by decide) (fun c_26 => ?_) (fun c_26 => ?_)
      · have hf := ifn c_26 hf
        exact kX2_openFor_41 C K2 hK2 x1 x2 x3 M _ _ _ hf hst (lv_sub hl [0, 1, 2, 3] rfl)
      · have hf := ifp c_26 hf
        refine lv_aload_n hx hb dX2_openFor_29 rfl (lv_at hl 0 rfl) ?_
        refine gf_X2_15 C hst dX2_openFor_30 ?_
        refine lv_iload_n hx hb dX2_openFor_33 rfl (lv_at hl 3 rfl) ?_
        refine w_iald (N := 100) (f := M 16) C hst 16 rfl h_15 dX2_openFor_34 ?_
        refine lv_iload_n hx hb dX2_openFor_35 rfl (lv_at hl 2 rfl) ?_
        refine lv_icmp_ne (tgt := 41) hx hb dX2_openFor_36 (by decide) (fun c_36 => ?_) (fun c_36 => ?_)
        · have hf := ifn c_36 hf
          exact kX2_openFor_41 C K2 hK2 x1 x2 x3 M _ _ _ hf hst (lv_sub hl [0, 1, 2, 3] rfl)
        · have hf := ifp c_36 hf
          refine lv_iload_n hx hb dX2_openFor_39 rfl (lv_at hl 3 rfl) ?_
          obtain ⟨e1, e2⟩ := sinj hf
          subst e1
          subst e2
          exact w_iret C hst dX2_openFor_40
theorem tX2_openFor_2 {p : Program} {l : Launch} {e : Env} {s : State} {m : MethodId} {args : Array Value} {below : List Frame} {meth : Method} {c : Code} {D : va_G} {cI cZ : ClassId} {a : Nat → Nat} {A : Nat → Prop} {r : Int32} {M' : Mem} (C : Cx p s m args meth c cX2_openFor 4 RX2 (some .int) D cI cZ A)  : ∀ (n : Nat) (x1 x2 x3 : Int32) (M : Mem) (H : Heap) (locs : List Loc) (ls : Array Slot), lX2_openFor_2 n x1 x2 x3 M = some (r, M') → St D (wB cI cZ a) A s.heap H locs M → lv_has ls 4 [(0, .ref (a 14)), (1, .int x1), (2, .int x2), (3, .int x3)] → Wi p l e { frames := 0, cells := 0, slots := 0, locals := 0 } s m args below meth c D (wB cI cZ a) A r M' H locs (F0 m 2 ls []) := by
  intro n
  induction n with
  | zero =>
    intro x1 x2 x3 M H locs ls hf
    exact nomatch (show (none : Res) = some (r, M') from hf)
  | succ n ih =>
    intro x1 x2 x3 M H locs ls hf hst hl
    exact kX2_openFor_2 C (lX2_openFor_2 n) ih x1 x2 x3 M H locs ls hf hst hl

set_option maxHeartbeats 4000000 in
set_option maxRecDepth 100000 in
theorem kX2_openFor_0 {p : Program} {l : Launch} {e : Env} {s : State} {m : MethodId} {args : Array Value} {below : List Frame} {meth : Method} {c : Code} {D : va_G} {cI cZ : ClassId} {a : Nat → Nat} {A : Nat → Prop} {r : Int32} {M' : Mem} (C : Cx p s m args meth c cX2_openFor 4 RX2 (some .int) D cI cZ A)  (x1 x2 : Int32) (M : Mem) (H : Heap) (locs : List Loc) (ls : Array Slot) (hf : fX2_openFor x1 x2 M = some (r, M')) (hst : St D (wB cI cZ a) A s.heap H locs M) (hl : lv_has ls 4 [(0, .ref (a 14)), (1, .int x1), (2, .int x2)]) : Wi p l e { frames := 0, cells := 0, slots := 0, locals := 0 } s m args below meth c D (wB cI cZ a) A r M' H locs (F0 m 0 ls []) := by
  unfold fX2_openFor at hf
  obtain ⟨hx, hb, hml, hown, hU, hr, hlk, hK, hA⟩ := id C
  refine lv_iconst (v := 0) hx hb dX2_openFor_0 (by decide) ?_
  refine lv_istore_n (lv' := [(3, .int (0 : Int32)), (0, .ref (a 14)), (1, .int x1), (2, .int x2)]) hx hb dX2_openFor_1 rfl hl (by decide) rfl (fun ls hl => ?_)
  exact tX2_openFor_2 C  fu x1 x2 (0 : Int32) M _ _ _ hf hst (lv_sub hl [1, 2, 3, 0] rfl)
set_option maxRecDepth 100000 in
theorem mX2_openFor (l : Launch) (D : va_G) (cI cZ : ClassId) (a : Nat → Nat) (x1 x2 : Int32) (M : Mem) (r : Int32) (M' : Mem) (hf : fX2_openFor x1 x2 M = some (r, M')) : MI l D cI cZ (wB cI cZ a) yX2_openFor cX2_openFor 4 (some .int) 0 0 [.ref (a 14), .int x1, .int x2] M r M' :=
  MI.of (by decide) (Nat.le_of_ble_eq_true rfl) (fun p e s m args below meth c A C hst ls hl => kX2_openFor_0 C x1 x2 M s.heap [] ls hf hst hl)

def fX2_add (x1 x2 x3 : Int32) (M : Mem) : Res :=
  if (M 14 5) < 0 ∨ 100 ≤ Int32.toNatClampNeg (M 14 5) then none else if ((upM M 15 (Int32.toNatClampNeg (M 14 5)) x1) 14 5) < 0 ∨ 100 ≤ Int32.toNatClampNeg ((upM M 15 (Int32.toNatClampNeg (M 14 5)) x1) 14 5) then none else if ((upM (upM M 15 (Int32.toNatClampNeg (M 14 5)) x1) 16 (Int32.toNatClampNeg ((upM M 15 (Int32.toNatClampNeg (M 14 5)) x1) 14 5)) x2) 14 5) < 0 ∨ 100 ≤ Int32.toNatClampNeg ((upM (upM M 15 (Int32.toNatClampNeg (M 14 5)) x1) 16 (Int32.toNatClampNeg ((upM M 15 (Int32.toNatClampNeg (M 14 5)) x1) 14 5)) x2) 14 5) then none else if ((upM (upM (upM M 15 (Int32.toNatClampNeg (M 14 5)) x1) 16 (Int32.toNatClampNeg ((upM M 15 (Int32.toNatClampNeg (M 14 5)) x1) 14 5)) x2) 17 (Int32.toNatClampNeg ((upM (upM M 15 (Int32.toNatClampNeg (M 14 5)) x1) 16 (Int32.toNatClampNeg ((upM M 15 (Int32.toNatClampNeg (M 14 5)) x1) 14 5)) x2) 14 5)) x3) 14 5) < 0 ∨ 100 ≤ Int32.toNatClampNeg ((upM (upM (upM M 15 (Int32.toNatClampNeg (M 14 5)) x1) 16 (Int32.toNatClampNeg ((upM M 15 (Int32.toNatClampNeg (M 14 5)) x1) 14 5)) x2) 17 (Int32.toNatClampNeg ((upM (upM M 15 (Int32.toNatClampNeg (M 14 5)) x1) 16 (Int32.toNatClampNeg ((upM M 15 (Int32.toNatClampNeg (M 14 5)) x1) 14 5)) x2) 14 5)) x3) 14 5) then none else if ((upM (upM (upM (upM M 15 (Int32.toNatClampNeg (M 14 5)) x1) 16 (Int32.toNatClampNeg ((upM M 15 (Int32.toNatClampNeg (M 14 5)) x1) 14 5)) x2) 17 (Int32.toNatClampNeg ((upM (upM M 15 (Int32.toNatClampNeg (M 14 5)) x1) 16 (Int32.toNatClampNeg ((upM M 15 (Int32.toNatClampNeg (M 14 5)) x1) 14 5)) x2) 14 5)) x3) 18 (Int32.toNatClampNeg ((upM (upM (upM M 15 (Int32.toNatClampNeg (M 14 5)) x1) 16 (Int32.toNatClampNeg ((upM M 15 (Int32.toNatClampNeg (M 14 5)) x1) 14 5)) x2) 17 (Int32.toNatClampNeg ((upM (upM M 15 (Int32.toNatClampNeg (M 14 5)) x1) 16 (Int32.toNatClampNeg ((upM M 15 (Int32.toNatClampNeg (M 14 5)) x1) 14 5)) x2) 14 5)) x3) 14 5)) x3) 14 5) < 0 ∨ 100 ≤ Int32.toNatClampNeg ((upM (upM (upM (upM M 15 (Int32.toNatClampNeg (M 14 5)) x1) 16 (Int32.toNatClampNeg ((upM M 15 (Int32.toNatClampNeg (M 14 5)) x1) 14 5)) x2) 17 (Int32.toNatClampNeg ((upM (upM M 15 (Int32.toNatClampNeg (M 14 5)) x1) 16 (Int32.toNatClampNeg ((upM M 15 (Int32.toNatClampNeg (M 14 5)) x1) 14 5)) x2) 14 5)) x3) 18 (Int32.toNatClampNeg ((upM (upM (upM M 15 (Int32.toNatClampNeg (M 14 5)) x1) 16 (Int32.toNatClampNeg ((upM M 15 (Int32.toNatClampNeg (M 14 5)) x1) 14 5)) x2) 17 (Int32.toNatClampNeg ((upM (upM M 15 (Int32.toNatClampNeg (M 14 5)) x1) 16 (Int32.toNatClampNeg ((upM M 15 (Int32.toNatClampNeg (M 14 5)) x1) 14 5)) x2) 14 5)) x3) 14 5)) x3) 14 5) then none else some (0, (upM (upM (upM (upM (upM (upM M 15 (Int32.toNatClampNeg (M 14 5)) x1) 16 (Int32.toNatClampNeg ((upM M 15 (Int32.toNatClampNeg (M 14 5)) x1) 14 5)) x2) 17 (Int32.toNatClampNeg ((upM (upM M 15 (Int32.toNatClampNeg (M 14 5)) x1) 16 (Int32.toNatClampNeg ((upM M 15 (Int32.toNatClampNeg (M 14 5)) x1) 14 5)) x2) 14 5)) x3) 18 (Int32.toNatClampNeg ((upM (upM (upM M 15 (Int32.toNatClampNeg (M 14 5)) x1) 16 (Int32.toNatClampNeg ((upM M 15 (Int32.toNatClampNeg (M 14 5)) x1) 14 5)) x2) 17 (Int32.toNatClampNeg ((upM (upM M 15 (Int32.toNatClampNeg (M 14 5)) x1) 16 (Int32.toNatClampNeg ((upM M 15 (Int32.toNatClampNeg (M 14 5)) x1) 14 5)) x2) 14 5)) x3) 14 5)) x3) 19 (Int32.toNatClampNeg ((upM (upM (upM (upM M 15 (Int32.toNatClampNeg (M 14 5)) x1) 16 (Int32.toNatClampNeg ((upM M 15 (Int32.toNatClampNeg (M 14 5)) x1) 14 5)) x2) 17 (Int32.toNatClampNeg ((upM (upM M 15 (Int32.toNatClampNeg (M 14 5)) x1) 16 (Int32.toNatClampNeg ((upM M 15 (Int32.toNatClampNeg (M 14 5)) x1) 14 5)) x2) 14 5)) x3) 18 (Int32.toNatClampNeg ((upM (upM (upM M 15 (Int32.toNatClampNeg (M 14 5)) x1) 16 (Int32.toNatClampNeg ((upM M 15 (Int32.toNatClampNeg (M 14 5)) x1) 14 5)) x2) 17 (Int32.toNatClampNeg ((upM (upM M 15 (Int32.toNatClampNeg (M 14 5)) x1) 16 (Int32.toNatClampNeg ((upM M 15 (Int32.toNatClampNeg (M 14 5)) x1) 14 5)) x2) 14 5)) x3) 14 5)) x3) 14 5)) (1 : Int32)) 14 5 (((upM (upM (upM (upM (upM M 15 (Int32.toNatClampNeg (M 14 5)) x1) 16 (Int32.toNatClampNeg ((upM M 15 (Int32.toNatClampNeg (M 14 5)) x1) 14 5)) x2) 17 (Int32.toNatClampNeg ((upM (upM M 15 (Int32.toNatClampNeg (M 14 5)) x1) 16 (Int32.toNatClampNeg ((upM M 15 (Int32.toNatClampNeg (M 14 5)) x1) 14 5)) x2) 14 5)) x3) 18 (Int32.toNatClampNeg ((upM (upM (upM M 15 (Int32.toNatClampNeg (M 14 5)) x1) 16 (Int32.toNatClampNeg ((upM M 15 (Int32.toNatClampNeg (M 14 5)) x1) 14 5)) x2) 17 (Int32.toNatClampNeg ((upM (upM M 15 (Int32.toNatClampNeg (M 14 5)) x1) 16 (Int32.toNatClampNeg ((upM M 15 (Int32.toNatClampNeg (M 14 5)) x1) 14 5)) x2) 14 5)) x3) 14 5)) x3) 19 (Int32.toNatClampNeg ((upM (upM (upM (upM M 15 (Int32.toNatClampNeg (M 14 5)) x1) 16 (Int32.toNatClampNeg ((upM M 15 (Int32.toNatClampNeg (M 14 5)) x1) 14 5)) x2) 17 (Int32.toNatClampNeg ((upM (upM M 15 (Int32.toNatClampNeg (M 14 5)) x1) 16 (Int32.toNatClampNeg ((upM M 15 (Int32.toNatClampNeg (M 14 5)) x1) 14 5)) x2) 14 5)) x3) 18 (Int32.toNatClampNeg ((upM (upM (upM M 15 (Int32.toNatClampNeg (M 14 5)) x1) 16 (Int32.toNatClampNeg ((upM M 15 (Int32.toNatClampNeg (M 14 5)) x1) 14 5)) x2) 17 (Int32.toNatClampNeg ((upM (upM M 15 (Int32.toNatClampNeg (M 14 5)) x1) 16 (Int32.toNatClampNeg ((upM M 15 (Int32.toNatClampNeg (M 14 5)) x1) 14 5)) x2) 14 5)) x3) 14 5)) x3) 14 5)) (1 : Int32)) 14 5) + (1 : Int32))))
theorem calX2_add : Cal yX2_add cX2_add 4 none 3 := ⟨(mU2 102 rfl rfl), (mU1 6 rfl rfl), by decide +kernel⟩
theorem cavX2_add : CalV yX2_add := ⟨(mU2 101 rfl rfl), (mS1 6 rfl)⟩
set_option maxHeartbeats 4000000 in
set_option maxRecDepth 100000 in
theorem kX2_add_0 {p : Program} {l : Launch} {e : Env} {s : State} {m : MethodId} {args : Array Value} {below : List Frame} {meth : Method} {c : Code} {D : va_G} {cI cZ : ClassId} {a : Nat → Nat} {A : Nat → Prop} {r : Int32} {M' : Mem} (C : Cx p s m args meth c cX2_add 4 RX2 none D cI cZ A)  (x1 x2 x3 : Int32) (M : Mem) (H : Heap) (locs : List Loc) (ls : Array Slot) (hf : fX2_add x1 x2 x3 M = some (r, M')) (hst : St D (wB cI cZ a) A s.heap H locs M) (hl : lv_has ls 4 [(0, .ref (a 14)), (1, .int x1), (2, .int x2), (3, .int x3)]) : Wv p l e { frames := 0, cells := 0, slots := 0, locals := 0 } s m args below meth c D (wB cI cZ a) A M' H locs (F0 m 0 ls []) := by
  unfold fX2_add at hf
  obtain ⟨hx, hb, hml, hown, hU, hr, hlk, hK, hA⟩ := id C
  refine lv_aload_n hx hb dX2_add_0 rfl (lv_at hl 0 rfl) ?_
  refine gf_X2_9 C hst dX2_add_1 ?_
  refine lv_aload_n hx hb dX2_add_4 rfl (lv_at hl 0 rfl) ?_
  refine gf_X2_28 C hst dX2_add_5 ?_
  refine lv_iload_n hx hb dX2_add_8 rfl (lv_at hl 1 rfl) ?_
  obtain ⟨h_9, hf⟩ := og hf
  refine w_iast (N := 100) (f := M 15) (M' := (upM M 15 (Int32.toNatClampNeg (M 14 5)) x1)) C hst 15 rfl (wB_set15 cI cZ a M (Int32.toNatClampNeg (M 14 5)) x1) h_9 dX2_add_9 (fun H locs hst => ?_)
  refine lv_aload_n hx hb dX2_add_10 rfl (lv_at hl 0 rfl) ?_
  refine gf_X2_15 C hst dX2_add_11 ?_
  refine lv_aload_n hx hb dX2_add_14 rfl (lv_at hl 0 rfl) ?_
  refine gf_X2_28 C hst dX2_add_15 ?_
  refine lv_iload_n hx hb dX2_add_18 rfl (lv_at hl 2 rfl) ?_
  obtain ⟨h_19, hf⟩ := og hf
  refine w_iast (N := 100) (f := (upM M 15 (Int32.toNatClampNeg (M 14 5)) x1) 16) (M' := (upM (upM M 15 (Int32.toNatClampNeg (M 14 5)) x1) 16 (Int32.toNatClampNeg ((upM M 15 (Int32.toNatClampNeg (M 14 5)) x1) 14 5)) x2)) C hst 16 rfl (wB_set16 cI cZ a (upM M 15 (Int32.toNatClampNeg (M 14 5)) x1) (Int32.toNatClampNeg ((upM M 15 (Int32.toNatClampNeg (M 14 5)) x1) 14 5)) x2) h_19 dX2_add_19 (fun H locs hst => ?_)
  refine lv_aload_n hx hb dX2_add_20 rfl (lv_at hl 0 rfl) ?_
  refine gf_X2_18 C hst dX2_add_21 ?_
  refine lv_aload_n hx hb dX2_add_24 rfl (lv_at hl 0 rfl) ?_
  refine gf_X2_28 C hst dX2_add_25 ?_
  refine lv_iload_n hx hb dX2_add_28 rfl (lv_at hl 3 rfl) ?_
  obtain ⟨h_29, hf⟩ := og hf
  refine w_iast (N := 100) (f := (upM (upM M 15 (Int32.toNatClampNeg (M 14 5)) x1) 16 (Int32.toNatClampNeg ((upM M 15 (Int32.toNatClampNeg (M 14 5)) x1) 14 5)) x2) 17) (M' := (upM (upM (upM M 15 (Int32.toNatClampNeg (M 14 5)) x1) 16 (Int32.toNatClampNeg ((upM M 15 (Int32.toNatClampNeg (M 14 5)) x1) 14 5)) x2) 17 (Int32.toNatClampNeg ((upM (upM M 15 (Int32.toNatClampNeg (M 14 5)) x1) 16 (Int32.toNatClampNeg ((upM M 15 (Int32.toNatClampNeg (M 14 5)) x1) 14 5)) x2) 14 5)) x3)) C hst 17 rfl (wB_set17 cI cZ a (upM (upM M 15 (Int32.toNatClampNeg (M 14 5)) x1) 16 (Int32.toNatClampNeg ((upM M 15 (Int32.toNatClampNeg (M 14 5)) x1) 14 5)) x2) (Int32.toNatClampNeg ((upM (upM M 15 (Int32.toNatClampNeg (M 14 5)) x1) 16 (Int32.toNatClampNeg ((upM M 15 (Int32.toNatClampNeg (M 14 5)) x1) 14 5)) x2) 14 5)) x3) h_29 dX2_add_29 (fun H locs hst => ?_)
  refine lv_aload_n hx hb dX2_add_30 rfl (lv_at hl 0 rfl) ?_
  refine gf_X2_21 C hst dX2_add_31 ?_
  refine lv_aload_n hx hb dX2_add_34 rfl (lv_at hl 0 rfl) ?_
  refine gf_X2_28 C hst dX2_add_35 ?_
  refine lv_iload_n hx hb dX2_add_38 rfl (lv_at hl 3 rfl) ?_
  obtain ⟨h_39, hf⟩ := og hf
  refine w_iast (N := 100) (f := (upM (upM (upM M 15 (Int32.toNatClampNeg (M 14 5)) x1) 16 (Int32.toNatClampNeg ((upM M 15 (Int32.toNatClampNeg (M 14 5)) x1) 14 5)) x2) 17 (Int32.toNatClampNeg ((upM (upM M 15 (Int32.toNatClampNeg (M 14 5)) x1) 16 (Int32.toNatClampNeg ((upM M 15 (Int32.toNatClampNeg (M 14 5)) x1) 14 5)) x2) 14 5)) x3) 18) (M' := (upM (upM (upM (upM M 15 (Int32.toNatClampNeg (M 14 5)) x1) 16 (Int32.toNatClampNeg ((upM M 15 (Int32.toNatClampNeg (M 14 5)) x1) 14 5)) x2) 17 (Int32.toNatClampNeg ((upM (upM M 15 (Int32.toNatClampNeg (M 14 5)) x1) 16 (Int32.toNatClampNeg ((upM M 15 (Int32.toNatClampNeg (M 14 5)) x1) 14 5)) x2) 14 5)) x3) 18 (Int32.toNatClampNeg ((upM (upM (upM M 15 (Int32.toNatClampNeg (M 14 5)) x1) 16 (Int32.toNatClampNeg ((upM M 15 (Int32.toNatClampNeg (M 14 5)) x1) 14 5)) x2) 17 (Int32.toNatClampNeg ((upM (upM M 15 (Int32.toNatClampNeg (M 14 5)) x1) 16 (Int32.toNatClampNeg ((upM M 15 (Int32.toNatClampNeg (M 14 5)) x1) 14 5)) x2) 14 5)) x3) 14 5)) x3)) C hst 18 rfl (wB_set18 cI cZ a (upM (upM (upM M 15 (Int32.toNatClampNeg (M 14 5)) x1) 16 (Int32.toNatClampNeg ((upM M 15 (Int32.toNatClampNeg (M 14 5)) x1) 14 5)) x2) 17 (Int32.toNatClampNeg ((upM (upM M 15 (Int32.toNatClampNeg (M 14 5)) x1) 16 (Int32.toNatClampNeg ((upM M 15 (Int32.toNatClampNeg (M 14 5)) x1) 14 5)) x2) 14 5)) x3) (Int32.toNatClampNeg ((upM (upM (upM M 15 (Int32.toNatClampNeg (M 14 5)) x1) 16 (Int32.toNatClampNeg ((upM M 15 (Int32.toNatClampNeg (M 14 5)) x1) 14 5)) x2) 17 (Int32.toNatClampNeg ((upM (upM M 15 (Int32.toNatClampNeg (M 14 5)) x1) 16 (Int32.toNatClampNeg ((upM M 15 (Int32.toNatClampNeg (M 14 5)) x1) 14 5)) x2) 14 5)) x3) 14 5)) x3) h_39 dX2_add_39 (fun H locs hst => ?_)
  refine lv_aload_n hx hb dX2_add_40 rfl (lv_at hl 0 rfl) ?_
  refine gf_X2_24 C hst dX2_add_41 ?_
  refine lv_aload_n hx hb dX2_add_44 rfl (lv_at hl 0 rfl) ?_
  refine gf_X2_28 C hst dX2_add_45 ?_
  refine lv_iconst (v := 1) hx hb dX2_add_48 (by decide) ?_
  obtain ⟨h_49, hf⟩ := og hf
  refine w_zast (N := 100) (f := (upM (upM (upM (upM M 15 (Int32.toNatClampNeg (M 14 5)) x1) 16 (Int32.toNatClampNeg ((upM M 15 (Int32.toNatClampNeg (M 14 5)) x1) 14 5)) x2) 17 (Int32.toNatClampNeg ((upM (upM M 15 (Int32.toNatClampNeg (M 14 5)) x1) 16 (Int32.toNatClampNeg ((upM M 15 (Int32.toNatClampNeg (M 14 5)) x1) 14 5)) x2) 14 5)) x3) 18 (Int32.toNatClampNeg ((upM (upM (upM M 15 (Int32.toNatClampNeg (M 14 5)) x1) 16 (Int32.toNatClampNeg ((upM M 15 (Int32.toNatClampNeg (M 14 5)) x1) 14 5)) x2) 17 (Int32.toNatClampNeg ((upM (upM M 15 (Int32.toNatClampNeg (M 14 5)) x1) 16 (Int32.toNatClampNeg ((upM M 15 (Int32.toNatClampNeg (M 14 5)) x1) 14 5)) x2) 14 5)) x3) 14 5)) x3) 19) (M' := (upM (upM (upM (upM (upM M 15 (Int32.toNatClampNeg (M 14 5)) x1) 16 (Int32.toNatClampNeg ((upM M 15 (Int32.toNatClampNeg (M 14 5)) x1) 14 5)) x2) 17 (Int32.toNatClampNeg ((upM (upM M 15 (Int32.toNatClampNeg (M 14 5)) x1) 16 (Int32.toNatClampNeg ((upM M 15 (Int32.toNatClampNeg (M 14 5)) x1) 14 5)) x2) 14 5)) x3) 18 (Int32.toNatClampNeg ((upM (upM (upM M 15 (Int32.toNatClampNeg (M 14 5)) x1) 16 (Int32.toNatClampNeg ((upM M 15 (Int32.toNatClampNeg (M 14 5)) x1) 14 5)) x2) 17 (Int32.toNatClampNeg ((upM (upM M 15 (Int32.toNatClampNeg (M 14 5)) x1) 16 (Int32.toNatClampNeg ((upM M 15 (Int32.toNatClampNeg (M 14 5)) x1) 14 5)) x2) 14 5)) x3) 14 5)) x3) 19 (Int32.toNatClampNeg ((upM (upM (upM (upM M 15 (Int32.toNatClampNeg (M 14 5)) x1) 16 (Int32.toNatClampNeg ((upM M 15 (Int32.toNatClampNeg (M 14 5)) x1) 14 5)) x2) 17 (Int32.toNatClampNeg ((upM (upM M 15 (Int32.toNatClampNeg (M 14 5)) x1) 16 (Int32.toNatClampNeg ((upM M 15 (Int32.toNatClampNeg (M 14 5)) x1) 14 5)) x2) 14 5)) x3) 18 (Int32.toNatClampNeg ((upM (upM (upM M 15 (Int32.toNatClampNeg (M 14 5)) x1) 16 (Int32.toNatClampNeg ((upM M 15 (Int32.toNatClampNeg (M 14 5)) x1) 14 5)) x2) 17 (Int32.toNatClampNeg ((upM (upM M 15 (Int32.toNatClampNeg (M 14 5)) x1) 16 (Int32.toNatClampNeg ((upM M 15 (Int32.toNatClampNeg (M 14 5)) x1) 14 5)) x2) 14 5)) x3) 14 5)) x3) 14 5)) (1 : Int32))) C hst 19 rfl rfl (wB_set19 cI cZ a (upM (upM (upM (upM M 15 (Int32.toNatClampNeg (M 14 5)) x1) 16 (Int32.toNatClampNeg ((upM M 15 (Int32.toNatClampNeg (M 14 5)) x1) 14 5)) x2) 17 (Int32.toNatClampNeg ((upM (upM M 15 (Int32.toNatClampNeg (M 14 5)) x1) 16 (Int32.toNatClampNeg ((upM M 15 (Int32.toNatClampNeg (M 14 5)) x1) 14 5)) x2) 14 5)) x3) 18 (Int32.toNatClampNeg ((upM (upM (upM M 15 (Int32.toNatClampNeg (M 14 5)) x1) 16 (Int32.toNatClampNeg ((upM M 15 (Int32.toNatClampNeg (M 14 5)) x1) 14 5)) x2) 17 (Int32.toNatClampNeg ((upM (upM M 15 (Int32.toNatClampNeg (M 14 5)) x1) 16 (Int32.toNatClampNeg ((upM M 15 (Int32.toNatClampNeg (M 14 5)) x1) 14 5)) x2) 14 5)) x3) 14 5)) x3) (Int32.toNatClampNeg ((upM (upM (upM (upM M 15 (Int32.toNatClampNeg (M 14 5)) x1) 16 (Int32.toNatClampNeg ((upM M 15 (Int32.toNatClampNeg (M 14 5)) x1) 14 5)) x2) 17 (Int32.toNatClampNeg ((upM (upM M 15 (Int32.toNatClampNeg (M 14 5)) x1) 16 (Int32.toNatClampNeg ((upM M 15 (Int32.toNatClampNeg (M 14 5)) x1) 14 5)) x2) 14 5)) x3) 18 (Int32.toNatClampNeg ((upM (upM (upM M 15 (Int32.toNatClampNeg (M 14 5)) x1) 16 (Int32.toNatClampNeg ((upM M 15 (Int32.toNatClampNeg (M 14 5)) x1) 14 5)) x2) 17 (Int32.toNatClampNeg ((upM (upM M 15 (Int32.toNatClampNeg (M 14 5)) x1) 16 (Int32.toNatClampNeg ((upM M 15 (Int32.toNatClampNeg (M 14 5)) x1) 14 5)) x2) 14 5)) x3) 14 5)) x3) 14 5)) (1 : Int32)) h_49 dX2_add_49 (fun H locs hst => ?_)
  refine lv_aload_n hx hb dX2_add_50 rfl (lv_at hl 0 rfl) ?_
  refine lv_dup hx hb dX2_add_51 rfl ?_
  refine gf_X2_28 C hst dX2_add_52 ?_
  refine lv_iconst (v := 1) hx hb dX2_add_55 (by decide) ?_
  refine lv_iadd hx hb dX2_add_56 ?_
  refine pf_X2_28 C hst dX2_add_57 (fun H locs hst => ?_)
  obtain ⟨e1, e2⟩ := sinj hf
  subst e1
  subst e2
  exact w_vret C hst dX2_add_60
set_option maxRecDepth 100000 in
theorem mX2_add (l : Launch) (D : va_G) (cI cZ : ClassId) (a : Nat → Nat) (x1 x2 x3 : Int32) (M : Mem) (r : Int32) (M' : Mem) (hf : fX2_add x1 x2 x3 M = some (r, M')) : MV l D cI cZ (wB cI cZ a) yX2_add cX2_add 4 0 0 [.ref (a 14), .int x1, .int x2, .int x3] M M' :=
  MV.of (by decide) (Nat.le_of_ble_eq_true rfl) (fun p e s m args below meth c A C hst ls hl => kX2_add_0 C x1 x2 x3 M s.heap [] ls hf hst hl)

def fX2_raise (x1 x2 x3 : Int32) (M : Mem) : Res :=
  obi (fX2_openFor x1 x2 M) (fun r_3 M_3 => (if r_3 = (-1 : Int32) then (if (100 : Int32) ≤ (M_3 14 5) then some (0, M_3) else obi (fX2_add x1 x2 x3 M_3) (fun r_38 M_38 => some (0, M_38))) else if r_3 < 0 ∨ 100 ≤ Int32.toNatClampNeg r_3 then none else some (0, (upM M_3 18 (Int32.toNatClampNeg r_3) x3))))
theorem calX2_raise : Cal yX2_raise cX2_raise 5 none 3 := ⟨(mU2 94 rfl rfl), (mU1 6 rfl rfl), by decide +kernel⟩
theorem cavX2_raise : CalV yX2_raise := ⟨(mU2 92 rfl rfl), (mU2 93 rfl rfl)⟩
set_option maxHeartbeats 4000000 in
set_option maxRecDepth 100000 in
theorem kX2_raise_0 {p : Program} {l : Launch} {e : Env} {s : State} {m : MethodId} {args : Array Value} {below : List Frame} {meth : Method} {c : Code} {D : va_G} {cI cZ : ClassId} {a : Nat → Nat} {A : Nat → Prop} {r : Int32} {M' : Mem} (C : Cx p s m args meth c cX2_raise 5 RX2 none D cI cZ A)  (x1 x2 x3 : Int32) (M : Mem) (H : Heap) (locs : List Loc) (ls : Array Slot) (hf : fX2_raise x1 x2 x3 M = some (r, M')) (hst : St D (wB cI cZ a) A s.heap H locs M) (hl : lv_has ls 5 [(0, .ref (a 14)), (1, .int x1), (2, .int x2), (3, .int x3)]) : Wv p l e { frames := 1, cells := 0, slots := 0, locals := 23 } s m args below meth c D (wB cI cZ a) A M' H locs (F0 m 0 ls []) := by
  unfold fX2_raise at hf
  obtain ⟨hx, hb, hml, hown, hU, hr, hlk, hK, hA⟩ := id C
  refine lv_aload_n hx hb dX2_raise_0 rfl (lv_at hl 0 rfl) ?_
  refine lv_iload_n hx hb dX2_raise_1 rfl (lv_at hl 1 rfl) ?_
  refine lv_iload_n hx hb dX2_raise_2 rfl (lv_at hl 2 rfl) ?_
  obtain ⟨r_3, M_3, hc_3, hf⟩ := obi_some hf
  refine w_cVi (As := [.int x1, .int x2]) (rest := []) C (wB_ad cI cZ a) (mX2_openFor l D cI cZ a x1 x2 M r_3 M_3 hc_3) calX2_openFor cavX2_openFor (mU2 95 rfl rfl) hst hl.1 14 2 rfl rfl rfl rfl (Nat.le_of_ble_eq_true rfl) ⟨Nat.le_of_ble_eq_true rfl, Nat.le_of_ble_eq_true rfl⟩ dX2_raise_3 (fun H locs hst => ?_)
  refine lv_istore (lv' := [(4, .int r_3), (0, .ref (a 14)), (1, .int x1), (2, .int x2), (3, .int x3)]) hx hb dX2_raise_6 hl (by decide) rfl (fun ls hl => ?_)
  refine lv_iload hx hb dX2_raise_8 (lv_at hl 0 rfl) ?_
  refine lv_iconst (v := -1) hx hb dX2_raise_10 (by decide) ?_
  refine lv_icmp_eq (tgt := 25) hx hb dX2_raise_11 (by decide) (fun c_11 => ?_) (fun c_11 => ?_)
  · have hf := ifp c_11 hf
    refine lv_aload_n hx hb dX2_raise_25 rfl (lv_at hl 1 rfl) ?_
    refine gf_X2_28 C hst dX2_raise_26 ?_
    refine lv_bipush (v := 100) hx hb dX2_raise_29 (by decide) ?_
    refine lv_icmp_ge (tgt := 41) hx hb dX2_raise_31 (by decide) (fun c_31 => ?_) (fun c_31 => ?_)
    · have hf := ifp c_31 hf
      obtain ⟨e1, e2⟩ := sinj hf
      subst e1
      subst e2
      exact w_vret C hst dX2_raise_41
    · have hf := ifn c_31 hf
      refine lv_aload_n hx hb dX2_raise_34 rfl (lv_at hl 1 rfl) ?_
      refine lv_iload_n hx hb dX2_raise_35 rfl (lv_at hl 2 rfl) ?_
      refine lv_iload_n hx hb dX2_raise_36 rfl (lv_at hl 3 rfl) ?_
      refine lv_iload_n hx hb dX2_raise_37 rfl (lv_at hl 4 rfl) ?_
      obtain ⟨r_38, M_38, hc_38, hf⟩ := obi_some hf
      refine w_cVv (As := [.int x1, .int x2, .int x3]) (rest := []) C (wB_ad cI cZ a) (mX2_add l D cI cZ a x1 x2 x3 M_3 r_38 M_38 hc_38) calX2_add cavX2_add (mU2 99 rfl rfl) hst hl.1 14 2 rfl rfl rfl rfl (Nat.le_of_ble_eq_true rfl) ⟨Nat.le_of_ble_eq_true rfl, Nat.le_of_ble_eq_true rfl⟩ dX2_raise_38 (fun H locs hst => ?_)
      obtain ⟨e1, e2⟩ := sinj hf
      subst e1
      subst e2
      exact w_vret C hst dX2_raise_41
  · have hf := ifn c_11 hf
    refine lv_aload_n hx hb dX2_raise_14 rfl (lv_at hl 1 rfl) ?_
    refine gf_X2_21 C hst dX2_raise_15 ?_
    refine lv_iload hx hb dX2_raise_18 (lv_at hl 0 rfl) ?_
    refine lv_iload_n hx hb dX2_raise_20 rfl (lv_at hl 4 rfl) ?_
    obtain ⟨h_21, hf⟩ := og hf
    refine w_iast (N := 100) (f := M_3 18) (M' := (upM M_3 18 (Int32.toNatClampNeg r_3) x3)) C hst 18 rfl (wB_set18 cI cZ a M_3 (Int32.toNatClampNeg r_3) x3) h_21 dX2_raise_21 (fun H locs hst => ?_)
    refine lv_goto (tgt := 41) hx hb dX2_raise_22 (by decide) ?_
    obtain ⟨e1, e2⟩ := sinj hf
    subst e1
    subst e2
    exact w_vret C hst dX2_raise_41
set_option maxRecDepth 100000 in
theorem mX2_raise (l : Launch) (D : va_G) (cI cZ : ClassId) (a : Nat → Nat) (x1 x2 x3 : Int32) (M : Mem) (r : Int32) (M' : Mem) (hf : fX2_raise x1 x2 x3 M = some (r, M')) : MV l D cI cZ (wB cI cZ a) yX2_raise cX2_raise 5 1 23 [.ref (a 14), .int x1, .int x2, .int x3] M M' :=
  MV.of (by decide) (Nat.le_of_ble_eq_true rfl) (fun p e s m args below meth c A C hst ls hl => kX2_raise_0 C x1 x2 x3 M s.heap [] ls hf hst hl)

def gX2_closeStale_30 (K2 : Int32 → Int32 → Mem → Res) (x1 x2 : Int32) (M : Mem) : Res :=
  K2 x1 (x2 + 1) M
def gX2_closeStale_2 (K2 : Int32 → Int32 → Mem → Res) (x1 x2 : Int32) (M : Mem) : Res :=
  (if (M 14 5) ≤ x2 then some (0, M) else if x2 < 0 ∨ 100 ≤ Int32.toNatClampNeg x2 then none else (if (x1 - (M 18 (Int32.toNatClampNeg x2))) < (6 : Int32) then gX2_closeStale_30 K2 x1 x2 M else gX2_closeStale_30 K2 x1 x2 (upM M 19 (Int32.toNatClampNeg x2) (0 : Int32))))
def lX2_closeStale_2 : Nat → Int32 → Int32 → Mem → Res
  | 0, _, _, _ => none
  | n + 1, x1, x2, M => gX2_closeStale_2 (lX2_closeStale_2 n) x1 x2 M
def fX2_closeStale (x1 : Int32) (M : Mem) : Res :=
  lX2_closeStale_2  fu x1 (0 : Int32) M
theorem calX2_closeStale : Cal yX2_closeStale cX2_closeStale 3 none 1 := ⟨(mU2 106 rfl rfl), (mU1 6 rfl rfl), by decide +kernel⟩
theorem cavX2_closeStale : CalV yX2_closeStale := ⟨(mU2 104 rfl rfl), (mU2 105 rfl rfl)⟩
set_option maxHeartbeats 4000000 in
set_option maxRecDepth 100000 in
theorem kX2_closeStale_30 {p : Program} {l : Launch} {e : Env} {s : State} {m : MethodId} {args : Array Value} {below : List Frame} {meth : Method} {c : Code} {D : va_G} {cI cZ : ClassId} {a : Nat → Nat} {A : Nat → Prop} {r : Int32} {M' : Mem} (C : Cx p s m args meth c cX2_closeStale 3 RX2 none D cI cZ A) (K2 : Int32 → Int32 → Mem → Res) (hK2 : ∀ (x1 x2 : Int32) (M : Mem) (H : Heap) (locs : List Loc) (ls : Array Slot), K2 x1 x2 M = some (r, M') → St D (wB cI cZ a) A s.heap H locs M → lv_has ls 3 [(0, .ref (a 14)), (1, .int x1), (2, .int x2)] → Wv p l e { frames := 0, cells := 0, slots := 0, locals := 0 } s m args below meth c D (wB cI cZ a) A M' H locs (F0 m 2 ls [])) (x1 x2 : Int32) (M : Mem) (H : Heap) (locs : List Loc) (ls : Array Slot) (hf : gX2_closeStale_30 K2 x1 x2 M = some (r, M')) (hst : St D (wB cI cZ a) A s.heap H locs M) (hl : lv_has ls 3 [(0, .ref (a 14)), (1, .int x1), (2, .int x2)]) : Wv p l e { frames := 0, cells := 0, slots := 0, locals := 0 } s m args below meth c D (wB cI cZ a) A M' H locs (F0 m 30 ls []) := by
  unfold gX2_closeStale_30 at hf
  obtain ⟨hx, hb, hml, hown, hU, hr, hlk, hK, hA⟩ := id C
  refine lv_iinc (v := (x2 + 1)) (lv' := [(2, .int (x2 + 1)), (0, .ref (a 14)), (1, .int x1)]) hx hb dX2_closeStale_30 hl (k := 2) rfl rfl (by decide) rfl (fun ls hl => ?_)
  refine lv_goto (tgt := 2) hx hb dX2_closeStale_33 (by decide) ?_
  exact hK2 x1 (x2 + 1) M _ _ _ hf hst (lv_sub hl [1, 2, 0] rfl)
set_option maxHeartbeats 4000000 in
set_option maxRecDepth 100000 in
theorem kX2_closeStale_2 {p : Program} {l : Launch} {e : Env} {s : State} {m : MethodId} {args : Array Value} {below : List Frame} {meth : Method} {c : Code} {D : va_G} {cI cZ : ClassId} {a : Nat → Nat} {A : Nat → Prop} {r : Int32} {M' : Mem} (C : Cx p s m args meth c cX2_closeStale 3 RX2 none D cI cZ A) (K2 : Int32 → Int32 → Mem → Res) (hK2 : ∀ (x1 x2 : Int32) (M : Mem) (H : Heap) (locs : List Loc) (ls : Array Slot), K2 x1 x2 M = some (r, M') → St D (wB cI cZ a) A s.heap H locs M → lv_has ls 3 [(0, .ref (a 14)), (1, .int x1), (2, .int x2)] → Wv p l e { frames := 0, cells := 0, slots := 0, locals := 0 } s m args below meth c D (wB cI cZ a) A M' H locs (F0 m 2 ls [])) (x1 x2 : Int32) (M : Mem) (H : Heap) (locs : List Loc) (ls : Array Slot) (hf : gX2_closeStale_2 K2 x1 x2 M = some (r, M')) (hst : St D (wB cI cZ a) A s.heap H locs M) (hl : lv_has ls 3 [(0, .ref (a 14)), (1, .int x1), (2, .int x2)]) : Wv p l e { frames := 0, cells := 0, slots := 0, locals := 0 } s m args below meth c D (wB cI cZ a) A M' H locs (F0 m 2 ls []) := by
  unfold gX2_closeStale_2 at hf
  obtain ⟨hx, hb, hml, hown, hU, hr, hlk, hK, hA⟩ := id C
  refine lv_iload_n hx hb dX2_closeStale_2 rfl (lv_at hl 2 rfl) ?_
  refine lv_aload_n hx hb dX2_closeStale_3 rfl (lv_at hl 0 rfl) ?_
  refine gf_X2_28 C hst dX2_closeStale_4 ?_
  refine lv_icmp_ge (tgt := 36) hx hb dX2_closeStale_7 (by decide) (fun c_7 => ?_) (fun c_7 => ?_)
  · have hf := ifp c_7 hf
    obtain ⟨e1, e2⟩ := sinj hf
    subst e1
    subst e2
    exact w_vret C hst dX2_closeStale_36
  · have hf := ifn c_7 hf
    refine lv_iload_n hx hb dX2_closeStale_10 rfl (lv_at hl 1 rfl) ?_
    refine lv_aload_n hx hb dX2_closeStale_11 rfl (lv_at hl 0 rfl) ?_
    refine gf_X2_21 C hst dX2_closeStale_12 ?_
    refine lv_iload_n hx hb dX2_closeStale_15 rfl (lv_at hl 2 rfl) ?_
    obtain ⟨h_16, hf⟩ := og hf
    refine w_iald (N := 100) (f := M 18) C hst 18 rfl h_16 dX2_closeStale_16 ?_
    refine lv_isub hx hb dX2_closeStale_17 ?_
    refine lv_bipush (v := 6) hx hb dX2_closeStale_18 (by decide) ?_
    refine lv_icmp_lt (tgt := 30) hx hb dX2_closeStale_20 (by decide) (fun c_20 => ?_) (fun c_20 => ?_)
    · have hf := ifp c_20 hf
      exact kX2_closeStale_30 C K2 hK2 x1 x2 M _ _ _ hf hst (lv_sub hl [0, 1, 2] rfl)
    · have hf := ifn c_20 hf
      refine lv_aload_n hx hb dX2_closeStale_23 rfl (lv_at hl 0 rfl) ?_
      refine gf_X2_24 C hst dX2_closeStale_24 ?_
      refine lv_iload_n hx hb dX2_closeStale_27 rfl (lv_at hl 2 rfl) ?_
      refine lv_iconst (v := 0) hx hb dX2_closeStale_28 (by decide) ?_
      refine w_zast (N := 100) (f := M 19) (M' := (upM M 19 (Int32.toNatClampNeg x2) (0 : Int32))) C hst 19 rfl rfl (wB_set19 cI cZ a M (Int32.toNatClampNeg x2) (0 : Int32)) h_16 dX2_closeStale_29 (fun H locs hst => ?_)
      exact kX2_closeStale_30 C K2 hK2 x1 x2 (upM M 19 (Int32.toNatClampNeg x2) (0 : Int32)) _ _ _ hf hst (lv_sub hl [0, 1, 2] rfl)
theorem tX2_closeStale_2 {p : Program} {l : Launch} {e : Env} {s : State} {m : MethodId} {args : Array Value} {below : List Frame} {meth : Method} {c : Code} {D : va_G} {cI cZ : ClassId} {a : Nat → Nat} {A : Nat → Prop} {r : Int32} {M' : Mem} (C : Cx p s m args meth c cX2_closeStale 3 RX2 none D cI cZ A)  : ∀ (n : Nat) (x1 x2 : Int32) (M : Mem) (H : Heap) (locs : List Loc) (ls : Array Slot), lX2_closeStale_2 n x1 x2 M = some (r, M') → St D (wB cI cZ a) A s.heap H locs M → lv_has ls 3 [(0, .ref (a 14)), (1, .int x1), (2, .int x2)] → Wv p l e { frames := 0, cells := 0, slots := 0, locals := 0 } s m args below meth c D (wB cI cZ a) A M' H locs (F0 m 2 ls []) := by
  intro n
  induction n with
  | zero =>
    intro x1 x2 M H locs ls hf
    exact nomatch (show (none : Res) = some (r, M') from hf)
  | succ n ih =>
    intro x1 x2 M H locs ls hf hst hl
    exact kX2_closeStale_2 C (lX2_closeStale_2 n) ih x1 x2 M H locs ls hf hst hl

set_option maxHeartbeats 4000000 in
set_option maxRecDepth 100000 in
theorem kX2_closeStale_0 {p : Program} {l : Launch} {e : Env} {s : State} {m : MethodId} {args : Array Value} {below : List Frame} {meth : Method} {c : Code} {D : va_G} {cI cZ : ClassId} {a : Nat → Nat} {A : Nat → Prop} {r : Int32} {M' : Mem} (C : Cx p s m args meth c cX2_closeStale 3 RX2 none D cI cZ A)  (x1 : Int32) (M : Mem) (H : Heap) (locs : List Loc) (ls : Array Slot) (hf : fX2_closeStale x1 M = some (r, M')) (hst : St D (wB cI cZ a) A s.heap H locs M) (hl : lv_has ls 3 [(0, .ref (a 14)), (1, .int x1)]) : Wv p l e { frames := 0, cells := 0, slots := 0, locals := 0 } s m args below meth c D (wB cI cZ a) A M' H locs (F0 m 0 ls []) := by
  unfold fX2_closeStale at hf
  obtain ⟨hx, hb, hml, hown, hU, hr, hlk, hK, hA⟩ := id C
  refine lv_iconst (v := 0) hx hb dX2_closeStale_0 (by decide) ?_
  refine lv_istore_n (lv' := [(2, .int (0 : Int32)), (0, .ref (a 14)), (1, .int x1)]) hx hb dX2_closeStale_1 rfl hl (by decide) rfl (fun ls hl => ?_)
  exact tX2_closeStale_2 C  fu x1 (0 : Int32) M _ _ _ hf hst (lv_sub hl [1, 2, 0] rfl)
set_option maxRecDepth 100000 in
theorem mX2_closeStale (l : Launch) (D : va_G) (cI cZ : ClassId) (a : Nat → Nat) (x1 : Int32) (M : Mem) (r : Int32) (M' : Mem) (hf : fX2_closeStale x1 M = some (r, M')) : MV l D cI cZ (wB cI cZ a) yX2_closeStale cX2_closeStale 3 0 0 [.ref (a 14), .int x1] M M' :=
  MV.of (by decide) (Nat.le_of_ble_eq_true rfl) (fun p e s m args below meth c A C hst ls hl => kX2_closeStale_0 C x1 M s.heap [] ls hf hst hl)


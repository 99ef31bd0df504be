def fX5_expected (M : Mem) : Res :=
  some ((M 10 2), M)
theorem calX5_expected : Cal yX5_expected cX5_expected 1 (some .int) 0 := ⟨(mU2 81 rfl rfl), (mU1 4 rfl rfl), by decide +kernel⟩
theorem cavX5_expected : CalV yX5_expected := ⟨(mU2 79 rfl rfl), (mU2 80 rfl rfl)⟩
set_option maxHeartbeats 4000000 in
set_option maxRecDepth 100000 in
theorem kX5_expected_0 {p : Program} {l : Launch} {e : Env} {s : State} {m : MethodId} {args : Array Value} {below : List Frame} {meth : Method} {c : Code} {D : va_G} {cI cZ : ClassId} {a : Nat → Nat} {A : Nat → Prop} {r : Int32} {M' : Mem} (C : Cx p s m args meth c cX5_expected 1 RX5 (some .int) D cI cZ A)  (M : Mem) (H : Heap) (locs : List Loc) (ls : Array Slot) (hf : fX5_expected M = some (r, M')) (hst : St D (wB cI cZ a) A s.heap H locs M) (hl : lv_has ls 1 [(0, .ref (a 10))]) : Wi p l e { frames := 0, cells := 0, slots := 0, locals := 0 } s m args below meth c D (wB cI cZ a) A r M' H locs (F0 m 0 ls []) := by
  unfold fX5_expected at hf
  obtain ⟨hx, hb, hml, hown, hU, hr, hlk, hK, hA⟩ := id C
  refine lv_aload_n hx hb dX5_expected_0 rfl (lv_at hl 0 rfl) ?_
  refine gf_X5_19 C hst dX5_expected_1 ?_
  obtain ⟨e1, e2⟩ := sinj hf
  subst e1
  subst e2
  exact w_iret C hst dX5_expected_4
set_option maxRecDepth 100000 in
theorem mX5_expected (l : Launch) (D : va_G) (cI cZ : ClassId) (a : Nat → Nat) (M : Mem) (r : Int32) (M' : Mem) (hf : fX5_expected  M = some (r, M')) : MI l D cI cZ (wB cI cZ a) yX5_expected cX5_expected 1 (some .int) 0 0 [.ref (a 10)] M r M' :=
  MI.of (by decide) (Nat.le_of_ble_eq_true rfl) (fun p e s m args below meth c A C hst ls hl => kX5_expected_0 C  M s.heap [] ls hf hst hl)

def fX5_spread (M : Mem) : Res :=
  some ((M 10 3), M)
theorem calX5_spread : Cal yX5_spread cX5_spread 1 (some .int) 0 := ⟨(mU2 85 rfl rfl), (mU1 4 rfl rfl), by decide +kernel⟩
theorem cavX5_spread : CalV yX5_spread := ⟨(mU2 83 rfl rfl), (mU2 84 rfl rfl)⟩
set_option maxHeartbeats 4000000 in
set_option maxRecDepth 100000 in
theorem kX5_spread_0 {p : Program} {l : Launch} {e : Env} {s : State} {m : MethodId} {args : Array Value} {below : List Frame} {meth : Method} {c : Code} {D : va_G} {cI cZ : ClassId} {a : Nat → Nat} {A : Nat → Prop} {r : Int32} {M' : Mem} (C : Cx p s m args meth c cX5_spread 1 RX5 (some .int) D cI cZ A)  (M : Mem) (H : Heap) (locs : List Loc) (ls : Array Slot) (hf : fX5_spread M = some (r, M')) (hst : St D (wB cI cZ a) A s.heap H locs M) (hl : lv_has ls 1 [(0, .ref (a 10))]) : Wi p l e { frames := 0, cells := 0, slots := 0, locals := 0 } s m args below meth c D (wB cI cZ a) A r M' H locs (F0 m 0 ls []) := by
  unfold fX5_spread at hf
  obtain ⟨hx, hb, hml, hown, hU, hr, hlk, hK, hA⟩ := id C
  refine lv_aload_n hx hb dX5_spread_0 rfl (lv_at hl 0 rfl) ?_
  refine gf_X5_23 C hst dX5_spread_1 ?_
  obtain ⟨e1, e2⟩ := sinj hf
  subst e1
  subst e2
  exact w_iret C hst dX5_spread_4
set_option maxRecDepth 100000 in
theorem mX5_spread (l : Launch) (D : va_G) (cI cZ : ClassId) (a : Nat → Nat) (M : Mem) (r : Int32) (M' : Mem) (hf : fX5_spread  M = some (r, M')) : MI l D cI cZ (wB cI cZ a) yX5_spread cX5_spread 1 (some .int) 0 0 [.ref (a 10)] M r M' :=
  MI.of (by decide) (Nat.le_of_ble_eq_true rfl) (fun p e s m args below meth c A C hst ls hl => kX5_spread_0 C  M s.heap [] ls hf hst hl)

def gX5_sort_57 (K2 : Int32 → Int32 → Mem → Res) (x1 x2 x3 x4 : Int32) (M : Mem) : Res :=
  if x4 < 0 ∨ 7 ≤ Int32.toNatClampNeg x4 then none else K2 x1 (x2 + 1) (upM M 11 (Int32.toNatClampNeg x4) x3)
def gX5_sort_17 (K2 : Int32 → Int32 → Mem → Res) (K17 : Int32 → Int32 → Int32 → Int32 → Mem → Res) (x1 x2 x3 x4 : Int32) (M : Mem) : Res :=
  (if x4 ≤ 0 then gX5_sort_57 K2 x1 x2 x3 x4 M else if (x4 - (1 : Int32)) < 0 ∨ 7 ≤ Int32.toNatClampNeg (x4 - (1 : Int32)) then none else (if (M 11 (Int32.toNatClampNeg (x4 - (1 : Int32)))) ≤ x3 then gX5_sort_57 K2 x1 x2 x3 x4 M else if x4 < 0 ∨ 7 ≤ Int32.toNatClampNeg x4 then none else K17 x1 x2 x3 (x4 + (-1)) (upM M 11 (Int32.toNatClampNeg x4) (M 11 (Int32.toNatClampNeg (x4 - (1 : Int32)))))))
def lX5_sort_17 (K2 : Int32 → Int32 → Mem → Res) : Nat → Int32 → Int32 → Int32 → Int32 → Mem → Res
  | 0, _, _, _, _, _ => none
  | n + 1, x1, x2, x3, x4, M => gX5_sort_17 K2 (lX5_sort_17 K2 n) x1 x2 x3 x4 M
def gX5_sort_2 (K2 : Int32 → Int32 → Mem → Res) (x1 x2 : Int32) (M : Mem) : Res :=
  (if x1 ≤ x2 then some (0, M) else if x2 < 0 ∨ 7 ≤ Int32.toNatClampNeg x2 then none else lX5_sort_17 K2 fu x1 x2 (M 11 (Int32.toNatClampNeg x2)) x2 M)
def lX5_sort_2 : Nat → Int32 → Int32 → Mem → Res
  | 0, _, _, _ => none
  | n + 1, x1, x2, M => gX5_sort_2 (lX5_sort_2 n) x1 x2 M
def fX5_sort (x1 : Int32) (M : Mem) : Res :=
  lX5_sort_2  fu x1 (1 : Int32) M
theorem calX5_sort : Cal yX5_sort cX5_sort 5 none 1 := ⟨(mU2 74 rfl rfl), (mU1 4 rfl rfl), by decide +kernel⟩
theorem cavX5_sort : CalV yX5_sort := ⟨(mU2 73 rfl rfl), (mS1 4 rfl)⟩
set_option maxHeartbeats 4000000 in
set_option maxRecDepth 100000 in
theorem kX5_sort_57 {p : Program} {l : Launch} {e : Env} {s : State} {m : MethodId} {args : Array Value} {below : List Frame} {meth : Method} {c : Code} {D : va_G} {cI cZ : ClassId} {a : Nat → Nat} {A : Nat → Prop} {r : Int32} {M' : Mem} (C : Cx p s m args meth c cX5_sort 5 RX5 none D cI cZ A) (K2 : Int32 → Int32 → Mem → Res) (hK2 : ∀ (x1 x2 : Int32) (M : Mem) (H : Heap) (locs : List Loc) (ls : Array Slot), K2 x1 x2 M = some (r, M') → St D (wB cI cZ a) A s.heap H locs M → lv_has ls 5 [(0, .ref (a 10)), (1, .int x1), (2, .int x2)] → Wv p l e { frames := 0, cells := 0, slots := 0, locals := 0 } s m args below meth c D (wB cI cZ a) A M' H locs (F0 m 2 ls [])) (x1 x2 x3 x4 : Int32) (M : Mem) (H : Heap) (locs : List Loc) (ls : Array Slot) (hf : gX5_sort_57 K2 x1 x2 x3 x4 M = some (r, M')) (hst : St D (wB cI cZ a) A s.heap H locs M) (hl : lv_has ls 5 [(0, .ref (a 10)), (1, .int x1), (2, .int x2), (3, .int x3), (4, .int x4)]) : Wv p l e { frames := 0, cells := 0, slots := 0, locals := 0 } s m args below meth c D (wB cI cZ a) A M' H locs (F0 m 57 ls []) := by
  unfold gX5_sort_57 at hf
  obtain ⟨hx, hb, hml, hown, hU, hr, hlk, hK, hA⟩ := id C
  refine lv_aload_n hx hb dX5_sort_57 rfl (lv_at hl 0 rfl) ?_
  refine gf_X5_15 C hst dX5_sort_58 ?_
  refine lv_iload hx hb dX5_sort_61 (lv_at hl 4 rfl) ?_
  refine lv_iload_n hx hb dX5_sort_63 rfl (lv_at hl 3 rfl) ?_
  obtain ⟨h_64, hf⟩ := og hf
  refine w_iast (N := 7) (f := M 11) (M' := (upM M 11 (Int32.toNatClampNeg x4) x3)) C hst 11 rfl (wB_set11 cI cZ a M (Int32.toNatClampNeg x4) x3) h_64 dX5_sort_64 (fun H locs hst => ?_)
  refine lv_iinc (v := (x2 + 1)) (lv' := [(2, .int (x2 + 1)), (0, .ref (a 10)), (1, .int x1), (3, .int x3), (4, .int x4)]) hx hb dX5_sort_65 hl (k := 2) rfl rfl (by decide) rfl (fun ls hl => ?_)
  refine lv_goto (tgt := 2) hx hb dX5_sort_68 (by decide) ?_
  exact hK2 x1 (x2 + 1) (upM M 11 (Int32.toNatClampNeg x4) x3) _ _ _ hf hst (lv_sub hl [1, 2, 0] rfl)
set_option maxHeartbeats 4000000 in
set_option maxRecDepth 100000 in
theorem kX5_sort_17 {p : Program} {l : Launch} {e : Env} {s : State} {m : MethodId} {args : Array Value} {below : List Frame} {meth : Method} {c : Code} {D : va_G} {cI cZ : ClassId} {a : Nat → Nat} {A : Nat → Prop} {r : Int32} {M' : Mem} (C : Cx p s m args meth c cX5_sort 5 RX5 none D cI cZ A) (K2 : Int32 → Int32 → Mem → Res) (hK2 : ∀ (x1 x2 : Int32) (M : Mem) (H : Heap) (locs : List Loc) (ls : Array Slot), K2 x1 x2 M = some (r, M') → St D (wB cI cZ a) A s.heap H locs M → lv_has ls 5 [(0, .ref (a 10)), (1, .int x1), (2, .int x2)] → Wv p l e { frames := 0, cells := 0, slots := 0, locals := 0 } s m args below meth c D (wB cI cZ a) A M' H locs (F0 m 2 ls [])) (K17 : Int32 → Int32 → Int32 → Int32 → Mem → Res) (hK17 : ∀ (x1 x2 x3 x4 : Int32) (M : Mem) (H : Heap) (locs : List Loc) (ls : Array Slot), K17 x1 x2 x3 x4 M = some (r, M') → St D (wB cI cZ a) A s.heap H locs M → lv_has ls 5 [(0, .ref (a 10)), (1, .int x1), (2, .int x2), (3, .int x3), (4, .int x4)] → Wv p l e { frames := 0, cells := 0, slots := 0, locals := 0 } s m args below meth c D (wB cI cZ a) A M' H locs (F0 m 17 ls [])) (x1 x2 x3 x4 : Int32) (M : Mem) (H : Heap) (locs : List Loc) (ls : Array Slot) (hf : gX5_sort_17 K2 K17 x1 x2 x3 x4 M = some (r, M')) (hst : St D (wB cI cZ a) A s.heap H locs M) (hl : lv_has ls 5 [(0, .ref (a 10)), (1, .int x1), (2, .int x2), (3, .int x3), (4, .int x4)]) : Wv p l e { frames := 0, cells := 0, slots := 0, locals := 0 } s m args below meth c D (wB cI cZ a) A M' H locs (F0 m 17 ls []) := by
  unfold gX5_sort_17 at hf
  obtain ⟨hx, hb, hml, hown, hU, hr, hlk, hK, hA⟩ := id C
  refine lv_iload hx hb dX5_sort_17 (lv_at hl 4 rfl) ?_
  refine lv_if_le (tgt := 57) hx hb dX5_sort_19 (by decide) (fun c_19 => ?_) (fun c_19 => ?_)
  · have hf := ifp c_19 hf
    exact kX5_sort_57 C K2 hK2 x1 x2 x3 x4 M _ _ _ hf hst (lv_sub hl [0, 1, 2, 3, 4] rfl)
  · have hf := ifn c_19 hf
    refine lv_aload_n hx hb dX5_sort_22 rfl (lv_at hl 0 rfl) ?_
    refine gf_X5_15 C hst dX5_sort_23 ?_
    refine lv_iload hx hb dX5_sort_26 (lv_at hl 4 rfl) ?_
    refine lv_iconst (v := 1) hx hb dX5_sort_28 (by decide) ?_
    refine lv_isub hx hb dX5_sort_29 ?_
    obtain ⟨h_30, hf⟩ := og hf
    refine w_iald (N := 7) (f := M 11) C hst 11 rfl h_30 dX5_sort_30 ?_
    refine lv_iload_n hx hb dX5_sort_31 rfl (lv_at hl 3 rfl) ?_
    refine lv_icmp_le (tgt := 57) hx hb dX5_sort_32 (by decide) (fun c_32 => ?_) (fun c_32 => ?_)
    · have hf := ifp c_32 hf
      exact kX5_sort_57 C K2 hK2 x1 x2 x3 x4 M _ _ _ hf hst (lv_sub hl [0, 1, 2, 3, 4] rfl)
    · have hf := ifn c_32 hf
      refine lv_aload_n hx hb dX5_sort_35 rfl (lv_at hl 0 rfl) ?_
      refine gf_X5_15 C hst dX5_sort_36 ?_
      refine lv_iload hx hb dX5_sort_39 (lv_at hl 4 rfl) ?_
      refine lv_aload_n hx hb dX5_sort_41 rfl (lv_at hl 0 rfl) ?_
      refine gf_X5_15 C hst dX5_sort_42 ?_
      refine lv_iload hx hb dX5_sort_45 (lv_at hl 4 rfl) ?_
      refine lv_iconst (v := 1) hx hb dX5_sort_47 (by decide) ?_
      refine lv_isub hx hb dX5_sort_48 ?_
      refine w_iald (N := 7) (f := M 11) C hst 11 rfl h_30 dX5_sort_49 ?_
      obtain ⟨h_50, hf⟩ := og hf
      refine w_iast (N := 7) (f := M 11) (M' := (upM M 11 (Int32.toNatClampNeg x4) (M 11 (Int32.toNatClampNeg (x4 - (1 : Int32)))))) C hst 11 rfl (wB_set11 cI cZ a M (Int32.toNatClampNeg x4) (M 11 (Int32.toNatClampNeg (x4 - (1 : Int32))))) h_50 dX5_sort_50 (fun H locs hst => ?_)
      refine lv_iinc (v := (x4 + (-1))) (lv' := [(4, .int (x4 + (-1))), (0, .ref (a 10)), (1, .int x1), (2, .int x2), (3, .int x3)]) hx hb dX5_sort_51 hl (k := 4) rfl rfl (by decide) rfl (fun ls hl => ?_)
      refine lv_goto (tgt := 17) hx hb dX5_sort_54 (by decide) ?_
      exact hK17 x1 x2 x3 (x4 + (-1)) (upM M 11 (Int32.toNatClampNeg x4) (M 11 (Int32.toNatClampNeg (x4 - (1 : Int32))))) _ _ _ hf hst (lv_sub hl [1, 2, 3, 4, 0] rfl)
theorem tX5_sort_17 {p : Program} {l : Launch} {e : Env} {s : State} {m : MethodId} {args : Array Value} {below : List Frame} {meth : Method} {c : Code} {D : va_G} {cI cZ : ClassId} {a : Nat → Nat} {A : Nat → Prop} {r : Int32} {M' : Mem} (C : Cx p s m args meth c cX5_sort 5 RX5 none D cI cZ A) (K2 : Int32 → Int32 → Mem → Res) (hK2 : ∀ (x1 x2 : Int32) (M : Mem) (H : Heap) (locs : List Loc) (ls : Array Slot), K2 x1 x2 M = some (r, M') → St D (wB cI cZ a) A s.heap H locs M → lv_has ls 5 [(0, .ref (a 10)), (1, .int x1), (2, .int x2)] → Wv p l e { frames := 0, cells := 0, slots := 0, locals := 0 } s m args below meth c D (wB cI cZ a) A M' H locs (F0 m 2 ls [])) : ∀ (n : Nat) (x1 x2 x3 x4 : Int32) (M : Mem) (H : Heap) (locs : List Loc) (ls : Array Slot), lX5_sort_17 K2 n x1 x2 x3 x4 M = some (r, M') → St D (wB cI cZ a) A s.heap H locs M → lv_has ls 5 [(0, .ref (a 10)), (1, .int x1), (2, .int x2), (3, .int x3), (4, .int x4)] → Wv p l e { frames := 0, cells := 0, slots := 0, locals := 0 } s m args below meth c D (wB cI cZ a) A M' H locs (F0 m 17 ls []) := by
  intro n
  induction n with
  | zero =>
    intro x1 x2 x3 x4 M H locs ls hf
    exact nomatch (show (none : Res) = some (r, M') from hf)
  | succ n ih =>
    intro x1 x2 x3 x4 M H locs ls hf hst hl
    exact kX5_sort_17 C K2 hK2 (lX5_sort_17 K2 n) ih x1 x2 x3 x4 M H locs ls hf hst hl

set_option maxHeartbeats 4000000 in
set_option maxRecDepth 100000 in
theorem kX5_sort_2 {p : Program} {l : Launch} {e : Env} {s : State} {m : MethodId} {args : Array Value} {below : List Frame} {meth : Method} {c : Code} {D : va_G} {cI cZ : ClassId} {a : Nat → Nat} {A : Nat → Prop} {r : Int32} {M' : Mem} (C : Cx p s m args meth c cX5_sort 5 RX5 none D cI cZ A) (K2 : Int32 → Int32 → Mem → Res) (hK2 : ∀ (x1 x2 : Int32) (M : Mem) (H : Heap) (locs : List Loc) (ls : Array Slot), K2 x1 x2 M = some (r, M') → St D (wB cI cZ a) A s.heap H locs M → lv_has ls 5 [(0, .ref (a 10)), (1, .int x1), (2, .int x2)] → Wv p l e { frames := 0, cells := 0, slots := 0, locals := 0 } s m args below meth c D (wB cI cZ a) A M' H locs (F0 m 2 ls [])) (x1 x2 : Int32) (M : Mem) (H : Heap) (locs : List Loc) (ls : Array Slot) (hf : gX5_sort_2 K2 x1 x2 M = some (r, M')) (hst : St D (wB cI cZ a) A s.heap H locs M) (hl : lv_has ls 5 [(0, .ref (a 10)), (1, .int x1), (2, .int x2)]) : Wv p l e { frames := 0, cells := 0, slots := 0, locals := 0 } s m args below meth c D (wB cI cZ a) A M' H locs (F0 m 2 ls []) := by
  unfold gX5_sort_2 at hf
  obtain ⟨hx, hb, hml, hown, hU, hr, hlk, hK, hA⟩ := id C
  refine lv_iload_n hx hb dX5_sort_2 rfl (lv_at hl 2 rfl) ?_
  refine lv_iload_n hx hb dX5_sort_3 rfl (lv_at hl 1 rfl) ?_
  refine lv_icmp_ge (tgt := 71) hx hb dX5_sort_4 (by decide) (fun c_4 => ?_) (fun c_4 => ?_)
  · have hf := ifp c_4 hf
    obtain ⟨e1, e2⟩ := sinj hf
    subst e1
    subst e2
    exact w_vret C hst dX5_sort_71
  · have hf := ifn c_4 hf
    refine lv_aload_n hx hb dX5_sort_7 rfl (lv_at hl 0 rfl) ?_
    refine gf_X5_15 C hst dX5_sort_8 ?_
    refine lv_iload_n hx hb dX5_sort_11 rfl (lv_at hl 2 rfl) ?_
    obtain ⟨h_12, hf⟩ := og hf
    refine w_iald (N := 7) (f := M 11) C hst 11 rfl h_12 dX5_sort_12 ?_
    refine lv_istore_n (lv' := [(3, .int (M 11 (Int32.toNatClampNeg x2))), (0, .ref (a 10)), (1, .int x1), (2, .int x2)]) hx hb dX5_sort_13 rfl hl (by decide) rfl (fun ls hl => ?_)
    refine lv_iload_n hx hb dX5_sort_14 rfl (lv_at hl 3 rfl) ?_
    refine lv_istore (lv' := [(4, .int x2), (3, .int (M 11 (Int32.toNatClampNeg x2))), (0, .ref (a 10)), (1, .int x1), (2, .int x2)]) hx hb dX5_sort_15 hl (by decide) rfl (fun ls hl => ?_)
    exact tX5_sort_17 C K2 hK2 fu x1 x2 (M 11 (Int32.toNatClampNeg x2)) x2 M _ _ _ hf hst (lv_sub hl [2, 3, 4, 1, 0] rfl)
theorem tX5_sort_2 {p : Program} {l : Launch} {e : Env} {s : State} {m : MethodId} {args : Array Value} {below : List Frame} {meth : Method} {c : Code} {D : va_G} {cI cZ : ClassId} {a : Nat → Nat} {A : Nat → Prop} {r : Int32} {M' : Mem} (C : Cx p s m args meth c cX5_sort 5 RX5 none D cI cZ A)  : ∀ (n : Nat) (x1 x2 : Int32) (M : Mem) (H : Heap) (locs : List Loc) (ls : Array Slot), lX5_sort_2 n x1 x2 M = some (r, M') → St D (wB cI cZ a) A s.heap H locs M → lv_has ls 5 [(0, .ref (a 10)), (1, .int x1), (2, .int x2)] → Wv p l e { frames := 0, cells := 0, slots := 0, locals := 0 } s m args below meth c D (wB cI cZ a) A M' H locs (F0 m 2 ls []) := by
  intro n
  induction n with
  | zero =>
    intro x1 x2 M H locs ls hf
    exact nomatch (show (none : Res) = some (r, M') from hf)
  | succ n ih =>
    intro x1 x2 M H locs ls hf hst hl
    exact kX5_sort_2 C (lX5_sort_2 n) ih x1 x2 M H locs ls hf hst hl

set_option maxHeartbeats 4000000 in
set_option maxRecDepth 100000 in
theorem kX5_sort_0 {p : Program} {l : Launch} {e : Env} {s : State} {m : MethodId} {args : Array Value} {below : List Frame} {meth : Method} {c : Code} {D : va_G} {cI cZ : ClassId} {a : Nat → Nat} {A : Nat → Prop} {r : Int32} {M' : Mem} (C : Cx p s m args meth c cX5_sort 5 RX5 none D cI cZ A)  (x1 : Int32) (M : Mem) (H : Heap) (locs : List Loc) (ls : Array Slot) (hf : fX5_sort x1 M = some (r, M')) (hst : St D (wB cI cZ a) A s.heap H locs M) (hl : lv_has ls 5 [(0, .ref (a 10)), (1, .int x1)]) : Wv p l e { frames := 0, cells := 0, slots := 0, locals := 0 } s m args below meth c D (wB cI cZ a) A M' H locs (F0 m 0 ls []) := by
  unfold fX5_sort at hf
  obtain ⟨hx, hb, hml, hown, hU, hr, hlk, hK, hA⟩ := id C
  refine lv_iconst (v := 1) hx hb dX5_sort_0 (by decide) ?_
  refine lv_istore_n (lv' := [(2, .int (1 : Int32)), (0, .ref (a 10)), (1, .int x1)]) hx hb dX5_sort_1 rfl hl (by decide) rfl (fun ls hl => ?_)
  exact tX5_sort_2 C  fu x1 (1 : Int32) M _ _ _ hf hst (lv_sub hl [1, 2, 0] rfl)
set_option maxRecDepth 100000 in
theorem mX5_sort (l : Launch) (D : va_G) (cI cZ : ClassId) (a : Nat → Nat) (x1 : Int32) (M : Mem) (r : Int32) (M' : Mem) (hf : fX5_sort x1 M = some (r, M')) : MV l D cI cZ (wB cI cZ a) yX5_sort cX5_sort 5 0 0 [.ref (a 10), .int x1] M M' :=
  MV.of (by decide) (Nat.le_of_ble_eq_true rfl) (fun p e s m args below meth c A C hst ls hl => kX5_sort_0 C x1 M s.heap [] ls hf hst hl)

def fX5_median (x1 : Int32) (M : Mem) : Res :=
  obi (fX5_sort x1 M) (fun r_2 M_2 => if ((x1 - (1 : Int32)) / (2 : Int32)) < 0 ∨ 7 ≤ Int32.toNatClampNeg ((x1 - (1 : Int32)) / (2 : Int32)) then none else some ((M_2 11 (Int32.toNatClampNeg ((x1 - (1 : Int32)) / (2 : Int32)))), M_2))
theorem calX5_median : Cal yX5_median cX5_median 2 (some .int) 1 := ⟨(mU2 70 rfl rfl), (mU1 4 rfl rfl), by decide +kernel⟩
theorem cavX5_median : CalV yX5_median := ⟨(mU2 69 rfl rfl), (mS1 3 rfl)⟩
set_option maxHeartbeats 4000000 in
set_option maxRecDepth 100000 in
theorem kX5_median_0 {p : Program} {l : Launch} {e : Env} {s : State} {m : MethodId} {args : Array Value} {below : List Frame} {meth : Method} {c : Code} {D : va_G} {cI cZ : ClassId} {a : Nat → Nat} {A : Nat → Prop} {r : Int32} {M' : Mem} (C : Cx p s m args meth c cX5_median 2 RX5 (some .int) D cI cZ A)  (x1 : Int32) (M : Mem) (H : Heap) (locs : List Loc) (ls : Array Slot) (hf : fX5_median x1 M = some (r, M')) (hst : St D (wB cI cZ a) A s.heap H locs M) (hl : lv_has ls 2 [(0, .ref (a 10)), (1, .int x1)]) : Wi p l e { frames := 1, cells := 0, slots := 0, locals := 24 } s m args below meth c D (wB cI cZ a) A r M' H locs (F0 m 0 ls []) := by
  unfold fX5_median at hf
  obtain ⟨hx, hb, hml, hown, hU, hr, hlk, hK, hA⟩ := id C
  refine lv_aload_n hx hb dX5_median_0 rfl (lv_at hl 0 rfl) ?_
  refine lv_iload_n hx hb dX5_median_1 rfl (lv_at hl 1 rfl) ?_
  obtain ⟨r_2, M_2, hc_2, hf⟩ := obi_some hf
  refine w_cVv (As := [.int x1]) (rest := []) C (wB_ad cI cZ a) (mX5_sort l D cI cZ a x1 M r_2 M_2 hc_2) calX5_sort cavX5_sort (mU2 71 rfl rfl) hst hl.1 10 5 rfl rfl rfl rfl (Nat.le_of_ble_eq_true rfl) ⟨Nat.le_of_ble_eq_true rfl, Nat.le_of_ble_eq_true rfl⟩ dX5_median_2 (fun H locs hst => ?_)
  refine lv_aload_n hx hb dX5_median_5 rfl (lv_at hl 0 rfl) ?_
  refine gf_X5_15 C hst dX5_median_6 ?_
  refine lv_iload_n hx hb dX5_median_9 rfl (lv_at hl 1 rfl) ?_
  refine lv_iconst (v := 1) hx hb dX5_median_10 (by decide) ?_
  refine lv_isub hx hb dX5_median_11 ?_
  refine lv_iconst (v := 2) hx hb dX5_median_12 (by decide) ?_
  refine lv_idiv hx hb dX5_median_13 (by decide) ?_
  obtain ⟨h_14, hf⟩ := og hf
  refine w_iald (N := 7) (f := M_2 11) C hst 11 rfl h_14 dX5_median_14 ?_
  obtain ⟨e1, e2⟩ := sinj hf
  subst e1
  subst e2
  exact w_iret C hst dX5_median_15
set_option maxRecDepth 100000 in
theorem mX5_median (l : Launch) (D : va_G) (cI cZ : ClassId) (a : Nat → Nat) (x1 : Int32) (M : Mem) (r : Int32) (M' : Mem) (hf : fX5_median x1 M = some (r, M')) : MI l D cI cZ (wB cI cZ a) yX5_median cX5_median 2 (some .int) 1 24 [.ref (a 10), .int x1] M r M' :=
  MI.of (by decide) (Nat.le_of_ble_eq_true rfl) (fun p e s m args below meth c A C hst ls hl => kX5_median_0 C x1 M s.heap [] ls hf hst hl)

def gX5_gather_45 (K5 : Int32 → Int32 → Int32 → Int32 → Mem → Res) (x1 x2 x3 x4 x5 : Int32) (M : Mem) : Res :=
  K5 x1 x2 x3 (x4 + 1) M
def gX5_gather_5 (K5 : Int32 → Int32 → Int32 → Int32 → Mem → Res) (x1 x2 x3 x4 : Int32) (M : Mem) : Res :=
  (if (7 : Int32) < x4 then some (x3, M) else (if (x2 - (x4 * (24 : Int32))) < 0 then gX5_gather_45 K5 x1 x2 x3 x4 (x2 - (x4 * (24 : Int32))) M else obi (fX3_costOf x1 (x2 - (x4 * (24 : Int32))) M) (fun r_38 M_38 => if x3 < 0 ∨ 7 ≤ Int32.toNatClampNeg x3 then none else gX5_gather_45 K5 x1 x2 (x3 + 1) x4 (x2 - (x4 * (24 : Int32))) (upM M_38 11 (Int32.toNatClampNeg x3) r_38))))
def lX5_gather_5 : Nat → Int32 → Int32 → Int32 → Int32 → Mem → Res
  | 0, _, _, _, _, _ => none
  | n + 1, x1, x2, x3, x4, M => gX5_gather_5 (lX5_gather_5 n) x1 x2 x3 x4 M
def fX5_gather (x1 x2 : Int32) (M : Mem) : Res :=
  lX5_gather_5  fu x1 x2 (0 : Int32) (1 : Int32) M
theorem calX5_gather : Cal yX5_gather cX5_gather 6 (some .int) 2 := ⟨(mU2 62 rfl rfl), (mU1 4 rfl rfl), by decide +kernel⟩
theorem cavX5_gather : CalV yX5_gather := ⟨(mU2 61 rfl rfl), (mS1 2 rfl)⟩
set_option maxHeartbeats 4000000 in
set_option maxRecDepth 100000 in
theorem kX5_gather_45 {p : Program} {l : Launch} {e : Env} {s : State} {m : MethodId} {args : Array Value} {below : List Frame} {meth : Method} {c : Code} {D : va_G} {cI cZ : ClassId} {a : Nat → Nat} {A : Nat → Prop} {r : Int32} {M' : Mem} (C : Cx p s m args meth c cX5_gather 6 RX5 (some .int) D cI cZ A) (K5 : Int32 → Int32 → Int32 → Int32 → Mem → Res) (hK5 : ∀ (x1 x2 x3 x4 : Int32) (M : Mem) (H : Heap) (locs : List Loc) (ls : Array Slot), K5 x1 x2 x3 x4 M = some (r, M') → St D (wB cI cZ a) A s.heap H locs M → lv_has ls 6 [(0, .ref (a 10)), (1, .int x1), (2, .int x2), (3, .int x3), (4, .int x4)] → Wi p l e { frames := 1, cells := 0, slots := 0, locals := 22 } s m args below meth c D (wB cI cZ a) A r M' H locs (F0 m 5 ls [])) (x1 x2 x3 x4 x5 : Int32) (M : Mem) (H : Heap) (locs : List Loc) (ls : Array Slot) (hf : gX5_gather_45 K5 x1 x2 x3 x4 x5 M = some (r, M')) (hst : St D (wB cI cZ a) A s.heap H locs M) (hl : lv_has ls 6 [(0, .ref (a 10)), (1, .int x1), (2, .int x2), (3, .int x3), (4, .int x4), (5, .int x5)]) : Wi p l e { frames := 1, cells := 0, slots := 0, locals := 22 } s m args below meth c D (wB cI cZ a) A r M' H locs (F0 m 45 ls []) := by
  unfold gX5_gather_45 at hf
  obtain ⟨hx, hb, hml, hown, hU, hr, hlk, hK, hA⟩ := id C
  refine lv_iinc (v := (x4 + 1)) (lv' := [(4, .int (x4 + 1)), (0, .ref (a 10)), (1, .int x1), (2, .int x2), (3, .int x3), (5, .int x5)]) hx hb dX5_gather_45 hl (k := 4) rfl rfl (by decide) rfl (fun ls hl => ?_)
  refine lv_goto (tgt := 5) hx hb dX5_gather_48 (by decide) ?_
  exact hK5 x1 x2 x3 (x4 + 1) M _ _ _ hf hst (lv_sub hl [1, 2, 3, 4, 0] rfl)
set_option maxHeartbeats 4000000 in
set_option maxRecDepth 100000 in
theorem kX5_gather_5 {p : Program} {l : Launch} {e : Env} {s : State} {m : MethodId} {args : Array Value} {below : List Frame} {meth : Method} {c : Code} {D : va_G} {cI cZ : ClassId} {a : Nat → Nat} {A : Nat → Prop} {r : Int32} {M' : Mem} (C : Cx p s m args meth c cX5_gather 6 RX5 (some .int) D cI cZ A) (K5 : Int32 → Int32 → Int32 → Int32 → Mem → Res) (hK5 : ∀ (x1 x2 x3 x4 : Int32) (M : Mem) (H : Heap) (locs : List Loc) (ls : Array Slot), K5 x1 x2 x3 x4 M = some (r, M') → St D (wB cI cZ a) A s.heap H locs M → lv_has ls 6 [(0, .ref (a 10)), (1, .int x1), (2, .int x2), (3, .int x3), (4, .int x4)] → Wi p l e { frames := 1, cells := 0, slots := 0, locals := 22 } s m args below meth c D (wB cI cZ a) A r M' H locs (F0 m 5 ls [])) (x1 x2 x3 x4 : Int32) (M : Mem) (H : Heap) (locs : List Loc) (ls : Array Slot) (hf : gX5_gather_5 K5 x1 x2 x3 x4 M = some (r, M')) (hst : St D (wB cI cZ a) A s.heap H locs M) (hl : lv_has ls 6 [(0, .ref (a 10)), (1, .int x1), (2, .int x2), (3, .int x3), (4, .int x4)]) : Wi p l e { frames := 1, cells := 0, slots := 0, locals := 22 } s m args below meth c D (wB cI cZ a) A r M' H locs (F0 m 5 ls []) := by
  unfold gX5_gather_5 at hf
  obtain ⟨hx, hb, hml, hown, hU, hr, hlk, hK, hA⟩ := id C
  refine lv_iload hx hb dX5_gather_5 (lv_at hl 4 rfl) ?_
  refine lv_bipush (v := 7) hx hb dX5_gather_7 (by decide) ?_
  refine lv_icmp_gt (tgt := 51) hx hb dX5_gather_9 (by decide) (fun c_9 => ?_) (fun c_9 => ?_)
  · have hf := ifp c_9 hf
    refine lv_iload_n hx hb dX5_gather_51 rfl (lv_at hl 3 rfl) ?_
    obtain ⟨e1, e2⟩ := sinj hf
    subst e1
    subst e2
    exact w_iret C hst dX5_gather_52
  · have hf := ifn c_9 hf
    refine lv_iload_n hx hb dX5_gather_12 rfl (lv_at hl 2 rfl) ?_
    refine lv_iload hx hb dX5_gather_13 (lv_at hl 4 rfl) ?_
    refine lv_bipush (v := 24) hx hb dX5_gather_15 (by decide) ?_
    refine lv_imul hx hb dX5_gather_17 ?_
    refine lv_isub hx hb dX5_gather_18 ?_
    refine lv_istore (lv' := [(5, .int (x2 - (x4 * (24 : Int32)))), (0, .ref (a 10)), (1, .int x1), (2, .int x2), (3, .int x3), (4, .int x4)]) hx hb dX5_gather_19 hl (by decide) rfl (fun ls hl => ?_)
    refine lv_iload hx hb dX5_gather_21 (lv_at hl 0 rfl) ?_
    refine lv_if_lt (tgt := 45) hx hb dX5_gather_23 (by decide) (fun c_23 => ?_) (fun c_23 => ?_)
    · have hf := ifp c_23 hf
      exact kX5_gather_45 C K5 hK5 x1 x2 x3 x4 (x2 - (x4 * (24 : Int32))) M _ _ _ hf hst (lv_sub hl [1, 2, 3, 4, 5, 0] rfl)
    · have hf := ifn c_23 hf
      refine lv_aload_n hx hb dX5_gather_26 rfl (lv_at hl 1 rfl) ?_
      refine gf_X5_15 C hst dX5_gather_27 ?_
      refine lv_iload_n hx hb dX5_gather_30 rfl (lv_at hl 4 rfl) ?_
      refine lv_aload_n hx hb dX5_gather_31 rfl (lv_at hl 1 rfl) ?_
      refine gf_X5_9 C hst dX5_gather_32 ?_
      refine lv_iload_n hx hb dX5_gather_35 rfl (lv_at hl 2 rfl) ?_
      refine lv_iload hx hb dX5_gather_36 (lv_at hl 0 rfl) ?_
      obtain ⟨r_38, M_38, hc_38, hf⟩ := obi_some hf
      refine w_cVi (As := [.int x1, .int (x2 - (x4 * (24 : Int32)))]) (rest := [.int x3, .ref (a 11)]) C (wB_ad cI cZ a) (mX3_costOf l D cI cZ a x1 (x2 - (x4 * (24 : Int32))) M r_38 M_38 hc_38) calX3_costOf cavX3_costOf (mU2 63 rfl rfl) hst hl.1 1 3 rfl rfl rfl rfl (Nat.le_of_ble_eq_true rfl) ⟨Nat.le_of_ble_eq_true rfl, Nat.le_of_ble_eq_true rfl⟩ dX5_gather_38 (fun H locs hst => ?_)
      obtain ⟨h_41, hf⟩ := og hf
      refine w_iast (N := 7) (f := M_38 11) (M' := (upM M_38 11 (Int32.toNatClampNeg x3) r_38)) C hst 11 rfl (wB_set11 cI cZ a M_38 (Int32.toNatClampNeg x3) r_38) h_41 dX5_gather_41 (fun H locs hst => ?_)
      refine lv_iinc (v := (x3 + 1)) (lv' := [(3, .int (x3 + 1)), (5, .int (x2 - (x4 * (24 : Int32)))), (0, .ref (a 10)), (1, .int x1), (2, .int x2), (4, .int x4)]) hx hb dX5_gather_42 hl (k := 4) rfl rfl (by decide) rfl (fun ls hl => ?_)
      exact kX5_gather_45 C K5 hK5 x1 x2 (x3 + 1) x4 (x2 - (x4 * (24 : Int32))) (upM M_38 11 (Int32.toNatClampNeg x3) r_38) _ _ _ hf hst (lv_sub hl [2, 3, 4, 0, 5, 1] rfl)
theorem tX5_gather_5 {p : Program} {l : Launch} {e : Env} {s : State} {m : MethodId} {args : Array Value} {below : List Frame} {meth : Method} {c : Code} {D : va_G} {cI cZ : ClassId} {a : Nat → Nat} {A : Nat → Prop} {r : Int32} {M' : Mem} (C : Cx p s m args meth c cX5_gather 6 RX5 (some .int) D cI cZ A)  : ∀ (n : Nat) (x1 x2 x3 x4 : Int32) (M : Mem) (H : Heap) (locs : List Loc) (ls : Array Slot), lX5_gather_5 n x1 x2 x3 x4 M = some (r, M') → St D (wB cI cZ a) A s.heap H locs M → lv_has ls 6 [(0, .ref (a 10)), (1, .int x1), (2, .int x2), (3, .int x3), (4, .int x4)] → Wi p l e { frames := 1, cells := 0, slots := 0, locals := 22 } s m args below meth c D (wB cI cZ a) A r M' H locs (F0 m 5 ls []) := by
  intro n
  induction n with
  | zero =>
    intro x1 x2 x3 x4 M H locs ls hf
    exact nomatch (show (none : Res) = some (r, M') from hf)
  | succ n ih =>
    intro x1 x2 x3 x4 M H locs ls hf hst hl
    exact kX5_gather_5 C (lX5_gather_5 n) ih x1 x2 x3 x4 M H locs ls hf hst hl

set_option maxHeartbeats 4000000 in
set_option maxRecDepth 100000 in
theorem kX5_gather_0 {p : Program} {l : Launch} {e : Env} {s : State} {m : MethodId} {args : Array Value} {below : List Frame} {meth : Method} {c : Code} {D : va_G} {cI cZ : ClassId} {a : Nat → Nat} {A : Nat → Prop} {r : Int32} {M' : Mem} (C : Cx p s m args meth c cX5_gather 6 RX5 (some .int) D cI cZ A)  (x1 x2 : Int32) (M : Mem) (H : Heap) (locs : List Loc) (ls : Array Slot) (hf : fX5_gather x1 x2 M = some (r, M')) (hst : St D (wB cI cZ a) A s.heap H locs M) (hl : lv_has ls 6 [(0, .ref (a 10)), (1, .int x1), (2, .int x2)]) : Wi p l e { frames := 1, cells := 0, slots := 0, locals := 22 } s m args below meth c D (wB cI cZ a) A r M' H locs (F0 m 0 ls []) := by
  unfold fX5_gather at hf
  obtain ⟨hx, hb, hml, hown, hU, hr, hlk, hK, hA⟩ := id C
  refine lv_iconst (v := 0) hx hb dX5_gather_0 (by decide) ?_
  refine lv_istore_n (lv' := [(3, .int (0 : Int32)), (0, .ref (a 10)), (1, .int x1), (2, .int x2)]) hx hb dX5_gather_1 rfl hl (by decide) rfl (fun ls hl => ?_)
  refine lv_iconst (v := 1) hx hb dX5_gather_2 (by decide) ?_
  refine lv_istore (lv' := [(4, .int (1 : Int32)), (3, .int (0 : Int32)), (0, .ref (a 10)), (1, .int x1), (2, .int x2)]) hx hb dX5_gather_3 hl (by decide) rfl (fun ls hl => ?_)
  exact tX5_gather_5 C  fu x1 x2 (0 : Int32) (1 : Int32) M _ _ _ hf hst (lv_sub hl [2, 3, 4, 1, 0] rfl)
set_option maxRecDepth 100000 in
theorem mX5_gather (l : Launch) (D : va_G) (cI cZ : ClassId) (a : Nat → Nat) (x1 x2 : Int32) (M : Mem) (r : Int32) (M' : Mem) (hf : fX5_gather x1 x2 M = some (r, M')) : MI l D cI cZ (wB cI cZ a) yX5_gather cX5_gather 6 (some .int) 1 22 [.ref (a 10), .int x1, .int x2] M r M' :=
  MI.of (by decide) (Nat.le_of_ble_eq_true rfl) (fun p e s m args below meth c A C hst ls hl => kX5_gather_0 C x1 x2 M s.heap [] ls hf hst hl)

def gX5_find_26 (K26 : Int32 → Int32 → Int32 → Int32 → Mem → Res) (x1 x2 x3 x4 : Int32) (M : Mem) : Res :=
  (if x3 ≤ x4 then obi (fX5_median x3 M) (fun r_63 M_63 => some ((1 : Int32), (upM M_63 10 3 r_63))) else if x4 < 0 ∨ 7 ≤ Int32.toNatClampNeg x4 then none else K26 x1 x2 x3 (x4 + 1) (upM M 11 (Int32.toNatClampNeg x4) (if 0 ≤ ((M 11 (Int32.toNatClampNeg x4)) - (M 10 2)) then ((M 11 (Int32.toNatClampNeg x4)) - (M 10 2)) else 0 - ((M 11 (Int32.toNatClampNeg x4)) - (M 10 2)))))
def lX5_find_26 : Nat → Int32 → Int32 → Int32 → Int32 → Mem → Res
  | 0, _, _, _, _, _ => none
  | n + 1, x1, x2, x3, x4, M => gX5_find_26 (lX5_find_26 n) x1 x2 x3 x4 M
def fX5_find (x1 x2 : Int32) (M : Mem) : Res :=
  obi (fX5_gather x1 x2 M) (fun r_3 M_3 => (if (3 : Int32) ≤ r_3 then obi (fX5_median r_3 M_3) (fun r_17 M_17 => lX5_find_26  fu x1 x2 r_3 (0 : Int32) (upM M_17 10 2 r_17)) else some ((0 : Int32), M_3)))
theorem calX5_find : Cal yX5_find cX5_find 5 (some .boolean) 2 := ⟨(mU2 58 rfl rfl), (mU1 4 rfl rfl), by decide +kernel⟩
theorem cavX5_find : CalV yX5_find := ⟨(mU2 56 rfl rfl), (mU2 57 rfl rfl)⟩
set_option maxHeartbeats 4000000 in
set_option maxRecDepth 100000 in
theorem kX5_find_26 {p : Program} {l : Launch} {e : Env} {s : State} {m : MethodId} {args : Array Value} {below : List Frame} {meth : Method} {c : Code} {D : va_G} {cI cZ : ClassId} {a : Nat → Nat} {A : Nat → Prop} {r : Int32} {M' : Mem} (C : Cx p s m args meth c cX5_find 5 RX5 (some .boolean) D cI cZ A) (K26 : Int32 → Int32 → Int32 → Int32 → Mem → Res) (hK26 : ∀ (x1 x2 x3 x4 : Int32) (M : Mem) (H : Heap) (locs : List Loc) (ls : Array Slot), K26 x1 x2 x3 x4 M = some (r, M') → St D (wB cI cZ a) A s.heap H locs M → lv_has ls 5 [(0, .ref (a 10)), (1, .int x1), (2, .int x2), (3, .int x3), (4, .int x4)] → Wi p l e { frames := 2, cells := 0, slots := 0, locals := 47 } s m args below meth c D (wB cI cZ a) A r M' H locs (F0 m 26 ls [])) (x1 x2 x3 x4 : Int32) (M : Mem) (H : Heap) (locs : List Loc) (ls : Array Slot) (hf : gX5_find_26 K26 x1 x2 x3 x4 M = some (r, M')) (hst : St D (wB cI cZ a) A s.heap H locs M) (hl : lv_has ls 5 [(0, .ref (a 10)), (1, .int x1), (2, .int x2), (3, .int x3), (4, .int x4)]) : Wi p l e { frames := 2, cells := 0, slots := 0, locals := 47 } s m args below meth c D (wB cI cZ a) A r M' H locs (F0 m 26 ls []) := by
  unfold gX5_find_26 at hf
  obtain ⟨hx, hb, hml, hown, hU, hr, hlk, hK, hA⟩ := id C
  refine lv_iload hx hb dX5_find_26 (lv_at hl 4 rfl) ?_
  refine lv_iload_n hx hb dX5_find_28 rfl (lv_at hl 3 rfl) ?_
  refine lv_icmp_ge (tgt := 60) hx hb dX5_find_29 (by decide) (fun c_29 => ?_) (fun c_29 => ?_)
  · have hf := ifp c_29 hf
    refine lv_aload_n hx hb dX5_find_60 rfl (lv_at hl 0 rfl) ?_
    refine lv_aload_n hx hb dX5_find_61 rfl (lv_at hl 0 rfl) ?_
    refine lv_iload_n hx hb dX5_find_62 rfl (lv_at hl 3 rfl) ?_
    obtain ⟨r_63, M_63, hc_63, hf⟩ := obi_some hf
    refine w_cVi (As := [.int x3]) (rest := [.ref (a 10)]) C (wB_ad cI cZ a) (mX5_median l D cI cZ a x3 M r_63 M_63 hc_63) calX5_median cavX5_median (mU2 67 rfl rfl) hst hl.1 10 5 rfl rfl rfl rfl (Nat.le_of_ble_eq_true rfl) ⟨Nat.le_of_ble_eq_true rfl, Nat.le_of_ble_eq_true rfl⟩ dX5_find_63 (fun H locs hst => ?_)
    refine pf_X5_23 C hst dX5_find_66 (fun H locs hst => ?_)
    refine lv_iconst (v := 1) hx hb dX5_find_69 (by decide) ?_
    obtain ⟨e1, e2⟩ := sinj hf
    subst e1
    subst e2
    exact w_zret C rfl hst dX5_find_70
  · have hf := ifn c_29 hf
    refine lv_aload_n hx hb dX5_find_32 rfl (lv_at hl 0 rfl) ?_
    refine gf_X5_15 C hst dX5_find_33 ?_
    refine lv_iload hx hb dX5_find_36 (lv_at hl 4 rfl) ?_
    refine lv_aload_n hx hb dX5_find_38 rfl (lv_at hl 0 rfl) ?_
    refine gf_X5_15 C hst dX5_find_39 ?_
    refine lv_iload hx hb dX5_find_42 (lv_at hl 4 rfl) ?_
    obtain ⟨h_44, hf⟩ := og hf
    refine w_iald (N := 7) (f := M 11) C hst 11 rfl h_44 dX5_find_44 ?_
    refine lv_aload_n hx hb dX5_find_45 rfl (lv_at hl 0 rfl) ?_
    refine gf_X5_19 C hst dX5_find_46 ?_
    refine lv_isub hx hb dX5_find_49 ?_
    refine va_mabs hx hb (hml.trans hl.1.symm) hown (hU (.methodLink RX5 34 Lib.Math.abs.name) (mU2 75 rfl rfl)) (hU (.static Lib.Math.abs.name) (mU2 76 rfl rfl)) (hU (.initialized "java/lang/Math") (mU1 11 rfl rfl)) (hU (.code Lib.Math.abs.name Lib.Math.abs.code 1 (some .int)) (mU2 77 rfl rfl)) (Nat.le_of_ble_eq_true rfl) (Nat.le_of_ble_eq_true rfl) (Nat.zero_le _) (Nat.zero_le _) dX5_find_50 ?_
    refine w_iast (N := 7) (f := M 11) (M' := (upM M 11 (Int32.toNatClampNeg x4) (if 0 ≤ ((M 11 (Int32.toNatClampNeg x4)) - (M 10 2)) then ((M 11 (Int32.toNatClampNeg x4)) - (M 10 2)) else 0 - ((M 11 (Int32.toNatClampNeg x4)) - (M 10 2))))) C hst 11 rfl (wB_set11 cI cZ a M (Int32.toNatClampNeg x4) (if 0 ≤ ((M 11 (Int32.toNatClampNeg x4)) - (M 10 2)) then ((M 11 (Int32.toNatClampNeg x4)) - (M 10 2)) else 0 - ((M 11 (Int32.toNatClampNeg x4)) - (M 10 2)))) h_44 dX5_find_53 (fun H locs hst => ?_)
    refine lv_iinc (v := (x4 + 1)) (lv' := [(4, .int (x4 + 1)), (0, .ref (a 10)), (1, .int x1), (2, .int x2), (3, .int x3)]) hx hb dX5_find_54 hl (k := 4) rfl rfl (by decide) rfl (fun ls hl => ?_)
    refine lv_goto (tgt := 26) hx hb dX5_find_57 (by decide) ?_
    exact hK26 x1 x2 x3 (x4 + 1) (upM M 11 (Int32.toNatClampNeg x4) (if 0 ≤ ((M 11 (Int32.toNatClampNeg x4)) - (M 10 2)) then ((M 11 (Int32.toNatClampNeg x4)) - (M 10 2)) else 0 - ((M 11 (Int32.toNatClampNeg x4)) - (M 10 2)))) _ _ _ hf hst (lv_sub hl [1, 2, 3, 4, 0] rfl)
theorem tX5_find_26 {p : Program} {l : Launch} {e : Env} {s : State} {m : MethodId} {args : Array Value} {below : List Frame} {meth : Method} {c : Code} {D : va_G} {cI cZ : ClassId} {a : Nat → Nat} {A : Nat → Prop} {r : Int32} {M' : Mem} (C : Cx p s m args meth c cX5_find 5 RX5 (some .boolean) D cI cZ A)  : ∀ (n : Nat) (x1 x2 x3 x4 : Int32) (M : Mem) (H : Heap) (locs : List Loc) (ls : Array Slot), lX5_find_26 n x1 x2 x3 x4 M = some (r, M') → St D (wB cI cZ a) A s.heap H locs M → lv_has ls 5 [(0, .ref (a 10)), (1, .int x1), (2, .int x2), (3, .int x3), (4, .int x4)] → Wi p l e { frames := 2, cells := 0, slots := 0, locals := 47 } s m args below meth c D (wB cI cZ a) A r M' H locs (F0 m 26 ls []) := by
  intro n
  induction n with
  | zero =>
    intro x1 x2 x3 x4 M H locs ls hf
    exact nomatch (show (none : Res) = some (r, M') from hf)
  | succ n ih =>
    intro x1 x2 x3 x4 M H locs ls hf hst hl
    exact kX5_find_26 C (lX5_find_26 n) ih x1 x2 x3 x4 M H locs ls hf hst hl

set_option maxHeartbeats 4000000 in
set_option maxRecDepth 100000 in
theorem kX5_find_0 {p : Program} {l : Launch} {e : Env} {s : State} {m : MethodId} {args : Array Value} {below : List Frame} {meth : Method} {c : Code} {D : va_G} {cI cZ : ClassId} {a : Nat → Nat} {A : Nat → Prop} {r : Int32} {M' : Mem} (C : Cx p s m args meth c cX5_find 5 RX5 (some .boolean) D cI cZ A)  (x1 x2 : Int32) (M : Mem) (H : Heap) (locs : List Loc) (ls : Array Slot) (hf : fX5_find x1 x2 M = some (r, M')) (hst : St D (wB cI cZ a) A s.heap H locs M) (hl : lv_has ls 5 [(0, .ref (a 10)), (1, .int x1), (2, .int x2)]) : Wi p l e { frames := 2, cells := 0, slots := 0, locals := 47 } s m args below meth c D (wB cI cZ a) A r M' H locs (F0 m 0 ls []) := by
  unfold fX5_find at hf
  obtain ⟨hx, hb, hml, hown, hU, hr, hlk, hK, hA⟩ := id C
  refine lv_aload_n hx hb dX5_find_0 rfl (lv_at hl 0 rfl) ?_
  refine lv_iload_n hx hb dX5_find_1 rfl (lv_at hl 1 rfl) ?_
  refine lv_iload_n hx hb dX5_find_2 rfl (lv_at hl 2 rfl) ?_
  obtain ⟨r_3, M_3, hc_3, hf⟩ := obi_some hf
  refine w_cVi (As := [.int x1, .int x2]) (rest := []) C (wB_ad cI cZ a) (mX5_gather l D cI cZ a x1 x2 M r_3 M_3 hc_3) calX5_gather cavX5_gather (mU2 59 rfl rfl) hst hl.1 10 5 rfl rfl rfl rfl (Nat.le_of_ble_eq_true rfl) ⟨Nat.le_of_ble_eq_true rfl, Nat.le_of_ble_eq_true rfl⟩ dX5_find_3 (fun H locs hst => ?_)
  refine lv_istore_n (lv' := [(3, .int r_3), (0, .ref (a 10)), (1, .int x1), (2, .int x2)]) hx hb dX5_find_6 rfl hl (by decide) rfl (fun ls hl => ?_)
  refine lv_iload_n hx hb dX5_find_7 rfl (lv_at hl 0 rfl) ?_
  refine lv_iconst (v := 3) hx hb dX5_find_8 (by decide) ?_
  refine lv_icmp_ge (tgt := 14) hx hb dX5_find_9 (by decide) (fun c_9 => ?_) (fun c_9 => ?_)
  · have hf := ifp c_9 hf
    refine lv_aload_n hx hb dX5_find_14 rfl (lv_at hl 1 rfl) ?_
    refine lv_aload_n hx hb dX5_find_15 rfl (lv_at hl 1 rfl) ?_
    refine lv_iload_n hx hb dX5_find_16 rfl (lv_at hl 0 rfl) ?_
    obtain ⟨r_17, M_17, hc_17, hf⟩ := obi_some hf
    refine w_cVi (As := [.int r_3]) (rest := [.ref (a 10)]) C (wB_ad cI cZ a) (mX5_median l D cI cZ a r_3 M_3 r_17 M_17 hc_17) calX5_median cavX5_median (mU2 67 rfl rfl) hst hl.1 10 5 rfl rfl rfl rfl (Nat.le_of_ble_eq_true rfl) ⟨Nat.le_of_ble_eq_true rfl, Nat.le_of_ble_eq_true rfl⟩ dX5_find_17 (fun H locs hst => ?_)
    refine pf_X5_19 C hst dX5_find_20 (fun H locs hst => ?_)
    refine lv_iconst (v := 0) hx hb dX5_find_23 (by decide) ?_
    refine lv_istore (lv' := [(4, .int (0 : Int32)), (3, .int r_3), (0, .ref (a 10)), (1, .int x1), (2, .int x2)]) hx hb dX5_find_24 hl (by decide) rfl (fun ls hl => ?_)
    exact tX5_find_26 C  fu x1 x2 r_3 (0 : Int32) (upM M_17 10 2 r_17) _ _ _ hf hst (lv_sub hl [2, 3, 4, 1, 0] rfl)
  · have hf := ifn c_9 hf
    refine lv_iconst (v := 0) hx hb dX5_find_12 (by decide) ?_
    obtain ⟨e1, e2⟩ := sinj hf
    subst e1
    subst e2
    exact w_zret C rfl hst dX5_find_13
set_option maxRecDepth 100000 in
theorem mX5_find (l : Launch) (D : va_G) (cI cZ : ClassId) (a : Nat → Nat) (x1 x2 : Int32) (M : Mem) (r : Int32) (M' : Mem) (hf : fX5_find x1 x2 M = some (r, M')) : MI l D cI cZ (wB cI cZ a) yX5_find cX5_find 5 (some .boolean) 2 47 [.ref (a 10), .int x1, .int x2] M r M' :=
  MI.of (by decide) (Nat.le_of_ble_eq_true rfl) (fun p e s m args below meth c A C hst ls hl => kX5_find_0 C x1 x2 M s.heap [] ls hf hst hl)


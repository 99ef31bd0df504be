def gX6_giveTo_26 (K2 : Int32 → Int32 → Int32 → Mem → Res) (x1 x2 x3 z1 z2 : Int32) (M : Mem) : Res :=
  if z1 < 0 ∨ 24 ≤ Int32.toNatClampNeg z1 then none else K2 x1 x2 (x3 + 1) (upM M 21 (Int32.toNatClampNeg z1) z2)
def gX6_giveTo_2 (K2 : Int32 → Int32 → Int32 → Mem → Res) (x1 x2 x3 : Int32) (M : Mem) : Res :=
  (if (4 : Int32) ≤ x3 then some (0, M) else (if x3 = x2 then gX6_giveTo_26 K2 x1 x2 x3 ((x1 * (4 : Int32)) + x3) (1 : Int32) M else gX6_giveTo_26 K2 x1 x2 x3 ((x1 * (4 : Int32)) + x3) (0 : Int32) M))
def lX6_giveTo_2 : Nat → Int32 → Int32 → Int32 → Mem → Res
  | 0, _, _, _, _ => none
  | n + 1, x1, x2, x3, M => gX6_giveTo_2 (lX6_giveTo_2 n) x1 x2 x3 M
def fX6_giveTo (x1 x2 : Int32) (M : Mem) : Res :=
  lX6_giveTo_2  fu x1 x2 (0 : Int32) M
theorem calX6_giveTo : Cal yX6_giveTo cX6_giveTo 4 none 2 := ⟨(mU1 210 rfl rfl), (mU1 7 rfl rfl), by decide +kernel⟩
theorem cavX6_giveTo : CalV yX6_giveTo := ⟨(mU1 208 rfl rfl), (mU1 209 rfl rfl)⟩
set_option maxHeartbeats 4000000 in
set_option maxRecDepth 100000 in
theorem kX6_giveTo_26 {p : Program} {l : Launch} {e : Env} {s : State} {m : MethodId} {args : Array Value} {below : List Frame} {meth : Method} {c : Code} {D : va_G} {cI cZ : ClassId} {a : Nat → Nat} {A : Nat → Prop} {r : Int32} {M' : Mem} (C : Cx p s m args meth c cX6_giveTo 4 RX6 none D cI cZ A) (K2 : Int32 → Int32 → Int32 → Mem → Res) (hK2 : ∀ (x1 x2 x3 : Int32) (M : Mem) (H : Heap) (locs : List Loc) (ls : Array Slot), K2 x1 x2 x3 M = some (r, M') → St D (wB cI cZ a) A s.heap H locs M → lv_has ls 4 [(0, .ref (a 20)), (1, .int x1), (2, .int x2), (3, .int x3)] → Wv p l e { frames := 0, cells := 0, slots := 0, locals := 0 } s m args below meth c D (wB cI cZ a) A M' H locs (F0 m 2 ls [])) (x1 x2 x3 z1 z2 : Int32) (M : Mem) (H : Heap) (locs : List Loc) (ls : Array Slot) (hf : gX6_giveTo_26 K2 x1 x2 x3 z1 z2 M = some (r, M')) (hst : St D (wB cI cZ a) A s.heap H locs M) (hl : lv_has ls 4 [(0, .ref (a 20)), (1, .int x1), (2, .int x2), (3, .int x3)]) : Wv p l e { frames := 0, cells := 0, slots := 0, locals := 0 } s m args below meth c D (wB cI cZ a) A M' H locs (F0 m 26 ls [.int z2, .int z1, .ref (a 21)]) := by
  unfold gX6_giveTo_26 at hf
  obtain ⟨hx, hb, hml, hown, hU, hr, hlk, hK, hA⟩ := id C
  obtain ⟨h_26, hf⟩ := og hf
  refine w_iast (N := 24) (f := M 21) (M' := (upM M 21 (Int32.toNatClampNeg z1) z2)) C hst 21 rfl (wB_set21 cI cZ a M (Int32.toNatClampNeg z1) z2) h_26 dX6_giveTo_26 (fun H locs hst => ?_)
  refine lv_iinc (v := (x3 + 1)) (lv' := [(3, .int (x3 + 1)), (0, .ref (a 20)), (1, .int x1), (2, .int x2)]) hx hb dX6_giveTo_27 hl (k := 3) rfl rfl (by decide) rfl (fun ls hl => ?_)
  refine lv_goto (tgt := 2) hx hb dX6_giveTo_30 (by decide) ?_
  exact hK2 x1 x2 (x3 + 1) (upM M 21 (Int32.toNatClampNeg z1) z2) _ _ _ hf hst (lv_sub hl [1, 2, 3, 0] rfl)
set_option maxHeartbeats 4000000 in
set_option maxRecDepth 100000 in
theorem kX6_giveTo_2 {p : Program} {l : Launch} {e : Env} {s : State} {m : MethodId} {args : Array Value} {below : List Frame} {meth : Method} {c : Code} {D : va_G} {cI cZ : ClassId} {a : Nat → Nat} {A : Nat → Prop} {r : Int32} {M' : Mem} (C : Cx p s m args meth c cX6_giveTo 4 RX6 none D cI cZ A) (K2 : Int32 → Int32 → Int32 → Mem → Res) (hK2 : ∀ (x1 x2 x3 : Int32) (M : Mem) (H : Heap) (locs : List Loc) (ls : Array Slot), K2 x1 x2 x3 M = some (r, M') → St D (wB cI cZ a) A s.heap H locs M → lv_has ls 4 [(0, .ref (a 20)), (1, .int x1), (2, .int x2), (3, .int x3)] → Wv p l e { frames := 0, cells := 0, slots := 0, locals := 0 } s m args below meth c D (wB cI cZ a) A M' H locs (F0 m 2 ls [])) (x1 x2 x3 : Int32) (M : Mem) (H : Heap) (locs : List Loc) (ls : Array Slot) (hf : gX6_giveTo_2 K2 x1 x2 x3 M = some (r, M')) (hst : St D (wB cI cZ a) A s.heap H locs M) (hl : lv_has ls 4 [(0, .ref (a 20)), (1, .int x1), (2, .int x2), (3, .int x3)]) : Wv p l e { frames := 0, cells := 0, slots := 0, locals := 0 } s m args below meth c D (wB cI cZ a) A M' H locs (F0 m 2 ls []) := by
  unfold gX6_giveTo_2 at hf
  obtain ⟨hx, hb, hml, hown, hU, hr, hlk, hK, hA⟩ := id C
  refine lv_iload_n hx hb dX6_giveTo_2 rfl (lv_at hl 3 rfl) ?_
  refine lv_iconst (v := 4) hx hb dX6_giveTo_3 (by decide) ?_
  refine lv_icmp_ge (tgt := 33) hx hb dX6_giveTo_4 (by decide) (fun c_4 => ?_) (fun c_4 => ?_)
  · have hf := ifp c_4 hf
    obtain ⟨e1, e2⟩ := sinj hf
    subst e1
    subst e2
    exact w_vret C hst dX6_giveTo_33
  · have hf := ifn c_4 hf
    refine lv_aload_n hx hb dX6_giveTo_7 rfl (lv_at hl 0 rfl) ?_
    refine gf_X6_9 C hst dX6_giveTo_8 ?_
    refine lv_iload_n hx hb dX6_giveTo_11 rfl (lv_at hl 1 rfl) ?_
    refine lv_iconst (v := 4) hx hb dX6_giveTo_12 (by decide) ?_
    refine lv_imul hx hb dX6_giveTo_13 ?_
    refine lv_iload_n hx hb dX6_giveTo_14 rfl (lv_at hl 3 rfl) ?_
    refine lv_iadd hx hb dX6_giveTo_15 ?_
    refine lv_iload_n hx hb dX6_giveTo_16 rfl (lv_at hl 3 rfl) ?_
    refine lv_iload_n hx hb dX6_giveTo_17 rfl (lv_at hl 2 rfl) ?_
    refine lv_icmp_ne (tgt := 25) hx hb dX6_giveTo_18 (by decide) (fun c_18 => ?_) (fun c_18 => ?_)
    · have hf := ifn c_18 hf
      refine lv_iconst (v := 0) hx hb dX6_giveTo_25 (by decide) ?_
      exact kX6_giveTo_26 C K2 hK2 x1 x2 x3 ((x1 * (4 : Int32)) + x3) (0 : Int32) M _ _ _ hf hst (lv_sub hl [0, 1, 2, 3] rfl)
    · have hf := ifp c_18 hf
      refine lv_iconst (v := 1) hx hb dX6_giveTo_21 (by decide) ?_
      refine lv_goto (tgt := 26) hx hb dX6_giveTo_22 (by decide) ?_
      exact kX6_giveTo_26 C K2 hK2 x1 x2 x3 ((x1 * (4 : Int32)) + x3) (1 : Int32) M _ _ _ hf hst (lv_sub hl [0, 1, 2, 3] rfl)
theorem tX6_giveTo_2 {p : Program} {l : Launch} {e : Env} {s : State} {m : MethodId} {args : Array Value} {below : List Frame} {meth : Method} {c : Code} {D : va_G} {cI cZ : ClassId} {a : Nat → Nat} {A : Nat → Prop} {r : Int32} {M' : Mem} (C : Cx p s m args meth c cX6_giveTo 4 RX6 none D cI cZ A)  : ∀ (n : Nat) (x1 x2 x3 : Int32) (M : Mem) (H : Heap) (locs : List Loc) (ls : Array Slot), lX6_giveTo_2 n x1 x2 x3 M = some (r, M') → St D (wB cI cZ a) A s.heap H locs M → lv_has ls 4 [(0, .ref (a 20)), (1, .int x1), (2, .int x2), (3, .int x3)] → Wv p l e { frames := 0, cells := 0, slots := 0, locals := 0 } s m args below meth c D (wB cI cZ a) A M' H locs (F0 m 2 ls []) := by
  intro n
  induction n with
  | zero =>
    intro x1 x2 x3 M H locs ls hf
    exact nomatch (show (none : Res) = some (r, M') from hf)
  | succ n ih =>
    intro x1 x2 x3 M H locs ls hf hst hl
    exact kX6_giveTo_2 C (lX6_giveTo_2 n) ih x1 x2 x3 M H locs ls hf hst hl

set_option maxHeartbeats 4000000 in
set_option maxRecDepth 100000 in
theorem kX6_giveTo_0 {p : Program} {l : Launch} {e : Env} {s : State} {m : MethodId} {args : Array Value} {below : List Frame} {meth : Method} {c : Code} {D : va_G} {cI cZ : ClassId} {a : Nat → Nat} {A : Nat → Prop} {r : Int32} {M' : Mem} (C : Cx p s m args meth c cX6_giveTo 4 RX6 none D cI cZ A)  (x1 x2 : Int32) (M : Mem) (H : Heap) (locs : List Loc) (ls : Array Slot) (hf : fX6_giveTo x1 x2 M = some (r, M')) (hst : St D (wB cI cZ a) A s.heap H locs M) (hl : lv_has ls 4 [(0, .ref (a 20)), (1, .int x1), (2, .int x2)]) : Wv p l e { frames := 0, cells := 0, slots := 0, locals := 0 } s m args below meth c D (wB cI cZ a) A M' H locs (F0 m 0 ls []) := by
  unfold fX6_giveTo at hf
  obtain ⟨hx, hb, hml, hown, hU, hr, hlk, hK, hA⟩ := id C
  refine lv_iconst (v := 0) hx hb dX6_giveTo_0 (by decide) ?_
  refine lv_istore_n (lv' := [(3, .int (0 : Int32)), (0, .ref (a 20)), (1, .int x1), (2, .int x2)]) hx hb dX6_giveTo_1 rfl hl (by decide) rfl (fun ls hl => ?_)
  exact tX6_giveTo_2 C  fu x1 x2 (0 : Int32) M _ _ _ hf hst (lv_sub hl [1, 2, 3, 0] rfl)
set_option maxRecDepth 100000 in
theorem mX6_giveTo (l : Launch) (D : va_G) (cI cZ : ClassId) (a : Nat → Nat) (x1 x2 : Int32) (M : Mem) (r : Int32) (M' : Mem) (hf : fX6_giveTo x1 x2 M = some (r, M')) : MV l D cI cZ (wB cI cZ a) yX6_giveTo cX6_giveTo 4 0 0 [.ref (a 20), .int x1, .int x2] M M' :=
  MV.of (by decide) (Nat.le_of_ble_eq_true rfl) (fun p e s m args below meth c A C hst ls hl => kX6_giveTo_0 C x1 x2 M s.heap [] ls hf hst hl)

def fX6_split (x1 x2 x3 x4 x5 : Int32) (M : Mem) : Res :=
  if (x1 * (4 : Int32)) < 0 ∨ 24 ≤ Int32.toNatClampNeg (x1 * (4 : Int32)) then none else if ((x1 * (4 : Int32)) + (1 : Int32)) < 0 ∨ 24 ≤ Int32.toNatClampNeg ((x1 * (4 : Int32)) + (1 : Int32)) then none else if ((x1 * (4 : Int32)) + (2 : Int32)) < 0 ∨ 24 ≤ Int32.toNatClampNeg ((x1 * (4 : Int32)) + (2 : Int32)) then none else if ((x1 * (4 : Int32)) + (3 : Int32)) < 0 ∨ 24 ≤ Int32.toNatClampNeg ((x1 * (4 : Int32)) + (3 : Int32)) then none else some (0, (upM (upM (upM (upM M 21 (Int32.toNatClampNeg (x1 * (4 : Int32))) x2) 21 (Int32.toNatClampNeg ((x1 * (4 : Int32)) + (1 : Int32))) x3) 21 (Int32.toNatClampNeg ((x1 * (4 : Int32)) + (2 : Int32))) x4) 21 (Int32.toNatClampNeg ((x1 * (4 : Int32)) + (3 : Int32))) x5))
theorem calX6_split : Cal yX6_split cX6_split 6 none 5 := ⟨(mU1 221 rfl rfl), (mU1 7 rfl rfl), by decide +kernel⟩
theorem cavX6_split : CalV yX6_split := ⟨(mU1 219 rfl rfl), (mU1 220 rfl rfl)⟩
set_option maxHeartbeats 4000000 in
set_option maxRecDepth 100000 in
theorem kX6_split_0 {p : Program} {l : Launch} {e : Env} {s : State} {m : MethodId} {args : Array Value} {below : List Frame} {meth : Method} {c : Code} {D : va_G} {cI cZ : ClassId} {a : Nat → Nat} {A : Nat → Prop} {r : Int32} {M' : Mem} (C : Cx p s m args meth c cX6_split 6 RX6 none D cI cZ A)  (x1 x2 x3 x4 x5 : Int32) (M : Mem) (H : Heap) (locs : List Loc) (ls : Array Slot) (hf : fX6_split x1 x2 x3 x4 x5 M = some (r, M')) (hst : St D (wB cI cZ a) A s.heap H locs M) (hl : lv_has ls 6 [(0, .ref (a 20)), (1, .int x1), (2, .int x2), (3, .int x3), (4, .int x4), (5, .int x5)]) : Wv p l e { frames := 0, cells := 0, slots := 0, locals := 0 } s m args below meth c D (wB cI cZ a) A M' H locs (F0 m 0 ls []) := by
  unfold fX6_split at hf
  obtain ⟨hx, hb, hml, hown, hU, hr, hlk, hK, hA⟩ := id C
  refine lv_aload_n hx hb dX6_split_0 rfl (lv_at hl 0 rfl) ?_
  refine gf_X6_9 C hst dX6_split_1 ?_
  refine lv_iload_n hx hb dX6_split_4 rfl (lv_at hl 1 rfl) ?_
  refine lv_iconst (v := 4) hx hb dX6_split_5 (by decide) ?_
  refine lv_imul hx hb dX6_split_6 ?_
  refine lv_iload_n hx hb dX6_split_7 rfl (lv_at hl 2 rfl) ?_
  obtain ⟨h_8, hf⟩ := og hf
  refine w_iast (N := 24) (f := M 21) (M' := (upM M 21 (Int32.toNatClampNeg (x1 * (4 : Int32))) x2)) C hst 21 rfl (wB_set21 cI cZ a M (Int32.toNatClampNeg (x1 * (4 : Int32))) x2) h_8 dX6_split_8 (fun H locs hst => ?_)
  refine lv_aload_n hx hb dX6_split_9 rfl (lv_at hl 0 rfl) ?_
  refine gf_X6_9 C hst dX6_split_10 ?_
  refine lv_iload_n hx hb dX6_split_13 rfl (lv_at hl 1 rfl) ?_
  refine lv_iconst (v := 4) hx hb dX6_split_14 (by decide) ?_
  refine lv_imul hx hb dX6_split_15 ?_
  refine lv_iconst (v := 1) hx hb dX6_split_16 (by decide) ?_
  refine lv_iadd hx hb dX6_split_17 ?_
  refine lv_iload_n hx hb dX6_split_18 rfl (lv_at hl 3 rfl) ?_
  obtain ⟨h_19, hf⟩ := og hf
  refine w_iast (N := 24) (f := (upM M 21 (Int32.toNatClampNeg (x1 * (4 : Int32))) x2) 21) (M' := (upM (upM M 21 (Int32.toNatClampNeg (x1 * (4 : Int32))) x2) 21 (Int32.toNatClampNeg ((x1 * (4 : Int32)) + (1 : Int32))) x3)) C hst 21 rfl (wB_set21 cI cZ a (upM M 21 (Int32.toNatClampNeg (x1 * (4 : Int32))) x2) (Int32.toNatClampNeg ((x1 * (4 : Int32)) + (1 : Int32))) x3) h_19 dX6_split_19 (fun H locs hst => ?_)
  refine lv_aload_n hx hb dX6_split_20 rfl (lv_at hl 0 rfl) ?_
  refine gf_X6_9 C hst dX6_split_21 ?_
  refine lv_iload_n hx hb dX6_split_24 rfl (lv_at hl 1 rfl) ?_
  refine lv_iconst (v := 4) hx hb dX6_split_25 (by decide) ?_
  refine lv_imul hx hb dX6_split_26 ?_
  refine lv_iconst (v := 2) hx hb dX6_split_27 (by decide) ?_
  refine lv_iadd hx hb dX6_split_28 ?_
  refine lv_iload hx hb dX6_split_29 (lv_at hl 4 rfl) ?_
  obtain ⟨h_31, hf⟩ := og hf
  refine w_iast (N := 24) (f := (upM (upM M 21 (Int32.toNatClampNeg (x1 * (4 : Int32))) x2) 21 (Int32.toNatClampNeg ((x1 * (4 : Int32)) + (1 : Int32))) x3) 21) (M' := (upM (upM (upM M 21 (Int32.toNatClampNeg (x1 * (4 : Int32))) x2) 21 (Int32.toNatClampNeg ((x1 * (4 : Int32)) + (1 : Int32))) x3) 21 (Int32.toNatClampNeg ((x1 * (4 : Int32)) + (2 : Int32))) x4)) C hst 21 rfl (wB_set21 cI cZ a (upM (upM M 21 (Int32.toNatClampNeg (x1 * (4 : Int32))) x2) 21 (Int32.toNatClampNeg ((x1 * (4 : Int32)) + (1 : Int32))) x3) (Int32.toNatClampNeg ((x1 * (4 : Int32)) + (2 : Int32))) x4) h_31 dX6_split_31 (fun H locs hst => ?_)
  refine lv_aload_n hx hb dX6_split_32 rfl (lv_at hl 0 rfl) ?_
  refine gf_X6_9 C hst dX6_split_33 ?_
  refine lv_iload_n hx hb dX6_split_36 rfl (lv_at hl 1 rfl) ?_
  refine lv_iconst (v := 4) hx hb dX6_split_37 (by decide) ?_
  refine lv_imul hx hb dX6_split_38 ?_
  refine lv_iconst (v := 3) hx hb dX6_split_39 (by decide) ?_
  refine lv_iadd hx hb dX6_split_40 ?_
  refine lv_iload hx hb dX6_split_41 (lv_at hl 5 rfl) ?_
  obtain ⟨h_43, hf⟩ := og hf
  refine w_iast (N := 24) (f := (upM (upM (upM M 21 (Int32.toNatClampNeg (x1 * (4 : Int32))) x2) 21 (Int32.toNatClampNeg ((x1 * (4 : Int32)) + (1 : Int32))) x3) 21 (Int32.toNatClampNeg ((x1 * (4 : Int32)) + (2 : Int32))) x4) 21) (M' := (upM (upM (upM (upM M 21 (Int32.toNatClampNeg (x1 * (4 : Int32))) x2) 21 (Int32.toNatClampNeg ((x1 * (4 : Int32)) + (1 : Int32))) x3) 21 (Int32.toNatClampNeg ((x1 * (4 : Int32)) + (2 : Int32))) x4) 21 (Int32.toNatClampNeg ((x1 * (4 : Int32)) + (3 : Int32))) x5)) C hst 21 rfl (wB_set21 cI cZ a (upM (upM (upM M 21 (Int32.toNatClampNeg (x1 * (4 : Int32))) x2) 21 (Int32.toNatClampNeg ((x1 * (4 : Int32)) + (1 : Int32))) x3) 21 (Int32.toNatClampNeg ((x1 * (4 : Int32)) + (2 : Int32))) x4) (Int32.toNatClampNeg ((x1 * (4 : Int32)) + (3 : Int32))) x5) h_43 dX6_split_43 (fun H locs hst => ?_)
  obtain ⟨e1, e2⟩ := sinj hf
  subst e1
  subst e2
  exact w_vret C hst dX6_split_44
set_option maxRecDepth 100000 in
theorem mX6_split (l : Launch) (D : va_G) (cI cZ : ClassId) (a : Nat → Nat) (x1 x2 x3 x4 x5 : Int32) (M : Mem) (r : Int32) (M' : Mem) (hf : fX6_split x1 x2 x3 x4 x5 M = some (r, M')) : MV l D cI cZ (wB cI cZ a) yX6_split cX6_split 6 0 0 [.ref (a 20), .int x1, .int x2, .int x3, .int x4, .int x5] M M' :=
  MV.of (by decide) (Nat.le_of_ble_eq_true rfl) (fun p e s m args below meth c A C hst ls hl => kX6_split_0 C x1 x2 x3 x4 x5 M s.heap [] ls hf hst hl)

def gX6_sumOf_4 (K4 : Int32 → Int32 → Int32 → Mem → Res) (x1 x2 x3 : Int32) (M : Mem) : Res :=
  (if (4 : Int32) ≤ x3 then some (x2, M) else if ((x1 * (4 : Int32)) + x3) < 0 ∨ 24 ≤ Int32.toNatClampNeg ((x1 * (4 : Int32)) + x3) then none else K4 x1 (x2 + (M 21 (Int32.toNatClampNeg ((x1 * (4 : Int32)) + x3)))) (x3 + 1) M)
def lX6_sumOf_4 : Nat → Int32 → Int32 → Int32 → Mem → Res
  | 0, _, _, _, _ => none
  | n + 1, x1, x2, x3, M => gX6_sumOf_4 (lX6_sumOf_4 n) x1 x2 x3 M
def fX6_sumOf (x1 : Int32) (M : Mem) : Res :=
  lX6_sumOf_4  fu x1 (0 : Int32) (0 : Int32) M
theorem calX6_sumOf : Cal yX6_sumOf cX6_sumOf 4 (some .int) 1 := ⟨(mU2 224 rfl rfl), (mU1 7 rfl rfl), by decide +kernel⟩
theorem cavX6_sumOf : CalV yX6_sumOf := ⟨(mU2 223 rfl rfl), (mS1 9 rfl)⟩
set_option maxHeartbeats 4000000 in
set_option maxRecDepth 100000 in
theorem kX6_sumOf_4 {p : Program} {l : Launch} {e : Env} {s : State} {m : MethodId} {args : Array Value} {below : List Frame} {meth : Method} {c : Code} {D : va_G} {cI cZ : ClassId} {a : Nat → Nat} {A : Nat → Prop} {r : Int32} {M' : Mem} (C : Cx p s m args meth c cX6_sumOf 4 RX6 (some .int) D cI cZ A) (K4 : Int32 → Int32 → Int32 → Mem → Res) (hK4 : ∀ (x1 x2 x3 : Int32) (M : Mem) (H : Heap) (locs : List Loc) (ls : Array Slot), K4 x1 x2 x3 M = some (r, M') → St D (wB cI cZ a) A s.heap H locs M → lv_has ls 4 [(0, .ref (a 20)), (1, .int x1), (2, .int x2), (3, .int x3)] → Wi p l e { frames := 0, cells := 0, slots := 0, locals := 0 } s m args below meth c D (wB cI cZ a) A r M' H locs (F0 m 4 ls [])) (x1 x2 x3 : Int32) (M : Mem) (H : Heap) (locs : List Loc) (ls : Array Slot) (hf : gX6_sumOf_4 K4 x1 x2 x3 M = some (r, M')) (hst : St D (wB cI cZ a) A s.heap H locs M) (hl : lv_has ls 4 [(0, .ref (a 20)), (1, .int x1), (2, .int x2), (3, .int x3)]) : Wi p l e { frames := 0, cells := 0, slots := 0, locals := 0 } s m args below meth c D (wB cI cZ a) A r M' H locs (F0 m 4 ls []) := by
  unfold gX6_sumOf_4 at hf
  obtain ⟨hx, hb, hml, hown, hU, hr, hlk, hK, hA⟩ := id C
  refine lv_iload_n hx hb dX6_sumOf_4 rfl (lv_at hl 3 rfl) ?_
  refine lv_iconst (v := 4) hx hb dX6_sumOf_5 (by decide) ?_
  refine lv_icmp_ge (tgt := 28) hx hb dX6_sumOf_6 (by decide) (fun c_6 => ?_) (fun c_6 => ?_)
  · have hf := ifp c_6 hf
    refine lv_iload_n hx hb dX6_sumOf_28 rfl (lv_at hl 2 rfl) ?_
    obtain ⟨e1, e2⟩ := sinj hf
    subst e1
    subst e2
    exact w_iret C hst dX6_sumOf_29
  · have hf := ifn c_6 hf
    refine lv_iload_n hx hb dX6_sumOf_9 rfl (lv_at hl 2 rfl) ?_
    refine lv_aload_n hx hb dX6_sumOf_10 rfl (lv_at hl 0 rfl) ?_
    refine gf_X6_9 C hst dX6_sumOf_11 ?_
    refine lv_iload_n hx hb dX6_sumOf_14 rfl (lv_at hl 1 rfl) ?_
    refine lv_iconst (v := 4) hx hb dX6_sumOf_15 (by decide) ?_
    refine lv_imul hx hb dX6_sumOf_16 ?_
    refine lv_iload_n hx hb dX6_sumOf_17 rfl (lv_at hl 3 rfl) ?_
    refine lv_iadd hx hb dX6_sumOf_18 ?_
    obtain ⟨h_19, hf⟩ := og hf
    refine w_iald (N := 24) (f := M 21) C hst 21 rfl h_19 dX6_sumOf_19 ?_
    refine lv_iadd hx hb dX6_sumOf_20 ?_
    refine lv_istore_n (lv' := [(2, .int (x2 + (M 21 (Int32.toNatClampNeg ((x1 * (4 : Int32)) + x3))))), (0, .ref (a 20)), (1, .int x1), (3, .int x3)]) hx hb dX6_sumOf_21 rfl hl (by decide) rfl (fun ls hl => ?_)
    refine lv_iinc (v := (x3 + 1)) (lv' := [(3, .int (x3 + 1)), (2, .int (x2 + (M 21 (Int32.toNatClampNeg ((x1 * (4 : Int32)) + x3))))), (0, .ref (a 20)), (1, .int x1)]) hx hb dX6_sumOf_22 hl (k := 3) rfl rfl (by decide) rfl (fun ls hl => ?_)
    refine lv_goto (tgt := 4) hx hb dX6_sumOf_25 (by decide) ?_
    exact hK4 x1 (x2 + (M 21 (Int32.toNatClampNeg ((x1 * (4 : Int32)) + x3)))) (x3 + 1) M _ _ _ hf hst (lv_sub hl [2, 3, 1, 0] rfl)
theorem tX6_sumOf_4 {p : Program} {l : Launch} {e : Env} {s : State} {m : MethodId} {args : Array Value} {below : List Frame} {meth : Method} {c : Code} {D : va_G} {cI cZ : ClassId} {a : Nat → Nat} {A : Nat → Prop} {r : Int32} {M' : Mem} (C : Cx p s m args meth c cX6_sumOf 4 RX6 (some .int) D cI cZ A)  : ∀ (n : Nat) (x1 x2 x3 : Int32) (M : Mem) (H : Heap) (locs : List Loc) (ls : Array Slot), lX6_sumOf_4 n x1 x2 x3 M = some (r, M') → St D (wB cI cZ a) A s.heap H locs M → lv_has ls 4 [(0, .ref (a 20)), (1, .int x1), (2, .int x2), (3, .int x3)] → Wi p l e { frames := 0, cells := 0, slots := 0, locals := 0 } s m args below meth c D (wB cI cZ a) A r M' H locs (F0 m 4 ls []) := by
  intro n
  induction n with
  | zero =>
    intro x1 x2 x3 M H locs ls hf
    exact nomatch (show (none : Res) = some (r, M') from hf)
  | succ n ih =>
    intro x1 x2 x3 M H locs ls hf hst hl
    exact kX6_sumOf_4 C (lX6_sumOf_4 n) ih x1 x2 x3 M H locs ls hf hst hl

set_option maxHeartbeats 4000000 in
set_option maxRecDepth 100000 in
theorem kX6_sumOf_0 {p : Program} {l : Launch} {e : Env} {s : State} {m : MethodId} {args : Array Value} {below : List Frame} {meth : Method} {c : Code} {D : va_G} {cI cZ : ClassId} {a : Nat → Nat} {A : Nat → Prop} {r : Int32} {M' : Mem} (C : Cx p s m args meth c cX6_sumOf 4 RX6 (some .int) D cI cZ A)  (x1 : Int32) (M : Mem) (H : Heap) (locs : List Loc) (ls : Array Slot) (hf : fX6_sumOf x1 M = some (r, M')) (hst : St D (wB cI cZ a) A s.heap H locs M) (hl : lv_has ls 4 [(0, .ref (a 20)), (1, .int x1)]) : Wi p l e { frames := 0, cells := 0, slots := 0, locals := 0 } s m args below meth c D (wB cI cZ a) A r M' H locs (F0 m 0 ls []) := by
  unfold fX6_sumOf at hf
  obtain ⟨hx, hb, hml, hown, hU, hr, hlk, hK, hA⟩ := id C
  refine lv_iconst (v := 0) hx hb dX6_sumOf_0 (by decide) ?_
  refine lv_istore_n (lv' := [(2, .int (0 : Int32)), (0, .ref (a 20)), (1, .int x1)]) hx hb dX6_sumOf_1 rfl hl (by decide) rfl (fun ls hl => ?_)
  refine lv_iconst (v := 0) hx hb dX6_sumOf_2 (by decide) ?_
  refine lv_istore_n (lv' := [(3, .int (0 : Int32)), (2, .int (0 : Int32)), (0, .ref (a 20)), (1, .int x1)]) hx hb dX6_sumOf_3 rfl hl (by decide) rfl (fun ls hl => ?_)
  exact tX6_sumOf_4 C  fu x1 (0 : Int32) (0 : Int32) M _ _ _ hf hst (lv_sub hl [2, 3, 1, 0] rfl)
set_option maxRecDepth 100000 in
theorem mX6_sumOf (l : Launch) (D : va_G) (cI cZ : ClassId) (a : Nat → Nat) (x1 : Int32) (M : Mem) (r : Int32) (M' : Mem) (hf : fX6_sumOf x1 M = some (r, M')) : MI l D cI cZ (wB cI cZ a) yX6_sumOf cX6_sumOf 4 (some .int) 0 0 [.ref (a 20), .int x1] M r M' :=
  MI.of (by decide) (Nat.le_of_ble_eq_true rfl) (fun p e s m args below meth c A C hst ls hl => kX6_sumOf_0 C x1 M s.heap [] ls hf hst hl)

def gX6_partOf_119 (K58 : Int32 → Int32 → Int32 → Int32 → Int32 → Int32 → Int32 → Int32 → Int32 → Int32 → Mem → Res) (x1 x2 x3 x4 x5 x6 x7 x8 x9 x10 x11 x12 : Int32) (M : Mem) : Res :=
  K58 x1 x2 x3 x4 x5 x6 x7 x8 x9 (x10 + 1) M
def gX6_partOf_116 (K58 : Int32 → Int32 → Int32 → Int32 → Int32 → Int32 → Int32 → Int32 → Int32 → Int32 → Mem → Res) (x1 x2 x3 x4 x5 x6 x7 x8 x9 x10 x11 x12 : Int32) (M : Mem) : Res :=
  gX6_partOf_119 K58 x1 x2 x3 x4 x5 x6 x7 x8 (x9 + 1) x10 x11 x12 M
def gX6_partOf_58 (K58 : Int32 → Int32 → Int32 → Int32 → Int32 → Int32 → Int32 → Int32 → Int32 → Int32 → Mem → Res) (x1 x2 x3 x4 x5 x6 x7 x8 x9 x10 : Int32) (M : Mem) : Res :=
  (if (4 : Int32) ≤ x10 then (if x8 ≤ x9 then some (x6, M) else some ((x6 + (1 : Int32)), M)) else if ((x1 * (4 : Int32)) + x10) < 0 ∨ 24 ≤ Int32.toNatClampNeg ((x1 * (4 : Int32)) + x10) then none else if x5 = 0 then none else (if x7 < ((x3 * (M 21 (Int32.toNatClampNeg ((x1 * (4 : Int32)) + x10)))) - ((x3 * (M 21 (Int32.toNatClampNeg ((x1 * (4 : Int32)) + x10)))) / x5) * x5) then gX6_partOf_116 K58 x1 x2 x3 x4 x5 x6 x7 (x8 - ((x3 * (M 21 (Int32.toNatClampNeg ((x1 * (4 : Int32)) + x10)))) / x5)) x9 x10 (x3 * (M 21 (Int32.toNatClampNeg ((x1 * (4 : Int32)) + x10)))) ((x3 * (M 21 (Int32.toNatClampNeg ((x1 * (4 : Int32)) + x10)))) - ((x3 * (M 21 (Int32.toNatClampNeg ((x1 * (4 : Int32)) + x10)))) / x5) * x5) M else (if ((x3 * (M 21 (Int32.toNatClampNeg ((x1 * (4 : Int32)) + x10)))) - ((x3 * (M 21 (Int32.toNatClampNeg ((x1 * (4 : Int32)) + x10)))) / x5) * x5) = x7 then (if x2 ≤ x10 then gX6_partOf_119 K58 x1 x2 x3 x4 x5 x6 x7 (x8 - ((x3 * (M 21 (Int32.toNatClampNeg ((x1 * (4 : Int32)) + x10)))) / x5)) x9 x10 (x3 * (M 21 (Int32.toNatClampNeg ((x1 * (4 : Int32)) + x10)))) ((x3 * (M 21 (Int32.toNatClampNeg ((x1 * (4 : Int32)) + x10)))) - ((x3 * (M 21 (Int32.toNatClampNeg ((x1 * (4 : Int32)) + x10)))) / x5) * x5) M else gX6_partOf_116 K58 x1 x2 x3 x4 x5 x6 x7 (x8 - ((x3 * (M 21 (Int32.toNatClampNeg ((x1 * (4 : Int32)) + x10)))) / x5)) x9 x10 (x3 * (M 21 (Int32.toNatClampNeg ((x1 * (4 : Int32)) + x10)))) ((x3 * (M 21 (Int32.toNatClampNeg ((x1 * (4 : Int32)) + x10)))) - ((x3 * (M 21 (Int32.toNatClampNeg ((x1 * (4 : Int32)) + x10)))) / x5) * x5) M) else gX6_partOf_119 K58 x1 x2 x3 x4 x5 x6 x7 (x8 - ((x3 * (M 21 (Int32.toNatClampNeg ((x1 * (4 : Int32)) + x10)))) / x5)) x9 x10 (x3 * (M 21 (Int32.toNatClampNeg ((x1 * (4 : Int32)) + x10)))) ((x3 * (M 21 (Int32.toNatClampNeg ((x1 * (4 : Int32)) + x10)))) - ((x3 * (M 21 (Int32.toNatClampNeg ((x1 * (4 : Int32)) + x10)))) / x5) * x5) M)))
def lX6_partOf_58 : Nat → Int32 → Int32 → Int32 → Int32 → Int32 → Int32 → Int32 → Int32 → Int32 → Int32 → Mem → Res
  | 0, _, _, _, _, _, _, _, _, _, _, _ => none
  | n + 1, x1, x2, x3, x4, x5, x6, x7, x8, x9, x10, M => gX6_partOf_58 (lX6_partOf_58 n) x1 x2 x3 x4 x5 x6 x7 x8 x9 x10 M
def fX6_partOf (x1 x2 x3 : Int32) (M : Mem) : Res :=
  if ((x1 * (4 : Int32)) + x2) < 0 ∨ 24 ≤ Int32.toNatClampNeg ((x1 * (4 : Int32)) + x2) then none else obi (fX6_sumOf x1 M) (fun r_14 M_14 => (if (M 21 (Int32.toNatClampNeg ((x1 * (4 : Int32)) + x2))) ≤ 0 then some ((0 : Int32), M_14) else (if 0 < r_14 then if r_14 = 0 then none else lX6_partOf_58  fu x1 x2 x3 (M 21 (Int32.toNatClampNeg ((x1 * (4 : Int32)) + x2))) r_14 ((x3 * (M 21 (Int32.toNatClampNeg ((x1 * (4 : Int32)) + x2)))) / r_14) ((x3 * (M 21 (Int32.toNatClampNeg ((x1 * (4 : Int32)) + x2)))) - ((x3 * (M 21 (Int32.toNatClampNeg ((x1 * (4 : Int32)) + x2)))) / r_14) * r_14) x3 (0 : Int32) (0 : Int32) M_14 else some ((0 : Int32), M_14))))
theorem calX6_partOf : Cal yX6_partOf cX6_partOf 13 (some .int) 3 := ⟨(mU2 220 rfl rfl), (mU1 7 rfl rfl), by decide +kernel⟩
theorem cavX6_partOf : CalV yX6_partOf := ⟨(mU2 218 rfl rfl), (mU2 219 rfl rfl)⟩
set_option maxHeartbeats 4000000 in
set_option maxRecDepth 100000 in
theorem kX6_partOf_119 {p : Program} {l : Launch} {e : Env} {s : State} {m : MethodId} {args : Array Value} {below : List Frame} {meth : Method} {c : Code} {D : va_G} {cI cZ : ClassId} {a : Nat → Nat} {A : Nat → Prop} {r : Int32} {M' : Mem} (C : Cx p s m args meth c cX6_partOf 13 RX6 (some .int) D cI cZ A) (K58 : Int32 → Int32 → Int32 → Int32 → Int32 → Int32 → Int32 → Int32 → Int32 → Int32 → Mem → Res) (hK58 : ∀ (x1 x2 x3 x4 x5 x6 x7 x8 x9 x10 : Int32) (M : Mem) (H : Heap) (locs : List Loc) (ls : Array Slot), K58 x1 x2 x3 x4 x5 x6 x7 x8 x9 x10 M = some (r, M') → St D (wB cI cZ a) A s.heap H locs M → lv_has ls 13 [(0, .ref (a 20)), (1, .int x1), (2, .int x2), (3, .int x3), (4, .int x4), (5, .int x5), (6, .int x6), (7, .int x7), (8, .int x8), (9, .int x9), (10, .int x10)] → Wi p l e { frames := 1, cells := 0, slots := 0, locals := 23 } s m args below meth c D (wB cI cZ a) A r M' H locs (F0 m 58 ls [])) (x1 x2 x3 x4 x5 x6 x7 x8 x9 x10 x11 x12 : Int32) (M : Mem) (H : Heap) (locs : List Loc) (ls : Array Slot) (hf : gX6_partOf_119 K58 x1 x2 x3 x4 x5 x6 x7 x8 x9 x10 x11 x12 M = some (r, M')) (hst : St D (wB cI cZ a) A s.heap H locs M) (hl : lv_has ls 13 [(0, .ref (a 20)), (1, .int x1), (2, .int x2), (3, .int x3), (4, .int x4), (5, .int x5), (6, .int x6), (7, .int x7), (8, .int x8), (9, .int x9), (10, .int x10), (11, .int x11), (12, .int x12)]) : Wi p l e { frames := 1, cells := 0, slots := 0, locals := 23 } s m args below meth c D (wB cI cZ a) A r M' H locs (F0 m 119 ls []) := by
  unfold gX6_partOf_119 at hf
  obtain ⟨hx, hb, hml, hown, hU, hr, hlk, hK, hA⟩ := id C
  refine lv_iinc (v := (x10 + 1)) (lv' := [(10, .int (x10 + 1)), (0, .ref (a 20)), (1, .int x1), (2, .int x2), (3, .int x3), (4, .int x4), (5, .int x5), (6, .int x6), (7, .int x7), (8, .int x8), (9, .int x9), (11, .int x11), (12, .int x12)]) hx hb dX6_partOf_119 hl (k := 10) rfl rfl (by decide) rfl (fun ls hl => ?_)
  refine lv_goto (tgt := 58) hx hb dX6_partOf_122 (by decide) ?_
  exact hK58 x1 x2 x3 x4 x5 x6 x7 x8 x9 (x10 + 1) M _ _ _ hf hst (lv_sub hl [1, 2, 3, 4, 5, 6, 7, 8, 9, 10, 0] rfl)
set_option maxHeartbeats 4000000 in
set_option maxRecDepth 100000 in
theorem kX6_partOf_116 {p : Program} {l : Launch} {e : Env} {s : State} {m : MethodId} {args : Array Value} {below : List Frame} {meth : Method} {c : Code} {D : va_G} {cI cZ : ClassId} {a : Nat → Nat} {A : Nat → Prop} {r : Int32} {M' : Mem} (C : Cx p s m args meth c cX6_partOf 13 RX6 (some .int) D cI cZ A) (K58 : Int32 → Int32 → Int32 → Int32 → Int32 → Int32 → Int32 → Int32 → Int32 → Int32 → Mem → Res) (hK58 : ∀ (x1 x2 x3 x4 x5 x6 x7 x8 x9 x10 : Int32) (M : Mem) (H : Heap) (locs : List Loc) (ls : Array Slot), K58 x1 x2 x3 x4 x5 x6 x7 x8 x9 x10 M = some (r, M') → St D (wB cI cZ a) A s.heap H locs M → lv_has ls 13 [(0, .ref (a 20)), (1, .int x1), (2, .int x2), (3, .int x3), (4, .int x4), (5, .int x5), (6, .int x6), (7, .int x7), (8, .int x8), (9, .int x9), (10, .int x10)] → Wi p l e { frames := 1, cells := 0, slots := 0, locals := 23 } s m args below meth c D (wB cI cZ a) A r M' H locs (F0 m 58 ls [])) (x1 x2 x3 x4 x5 x6 x7 x8 x9 x10 x11 x12 : Int32) (M : Mem) (H : Heap) (locs : List Loc) (ls : Array Slot) (hf : gX6_partOf_116 K58 x1 x2 x3 x4 x5 x6 x7 x8 x9 x10 x11 x12 M = some (r, M')) (hst : St D (wB cI cZ a) A s.heap H locs M) (hl : lv_has ls 13 [(0, .ref (a 20)), (1, .int x1), (2, .int x2), (3, .int x3), (4, .int x4), (5, .int x5), (6, .int x6), (7, .int x7), (8, .int x8), (9, .int x9), (10, .int x10), (11, .int x11), (12, .int x12)]) : Wi p l e { frames := 1, cells := 0, slots := 0, locals := 23 } s m args below meth c D (wB cI cZ a) A r M' H locs (F0 m 116 ls []) := by
  unfold gX6_partOf_116 at hf
  obtain ⟨hx, hb, hml, hown, hU, hr, hlk, hK, hA⟩ := id C
  refine lv_iinc (v := (x9 + 1)) (lv' := [(9, .int (x9 + 1)), (0, .ref (a 20)), (1, .int x1), (2, .int x2), (3, .int x3), (4, .int x4), (5, .int x5), (6, .int x6), (7, .int x7), (8, .int x8), (10, .int x10), (11, .int x11), (12, .int x12)]) hx hb dX6_partOf_116 hl (k := 9) rfl rfl (by decide) rfl (fun ls hl => ?_)
  exact kX6_partOf_119 C K58 hK58 x1 x2 x3 x4 x5 x6 x7 x8 (x9 + 1) x10 x11 x12 M _ _ _ hf hst (lv_sub hl [1, 2, 3, 4, 5, 6, 7, 8, 9, 0, 10, 11, 12] rfl)
set_option maxHeartbeats 4000000 in
set_option maxRecDepth 100000 in
theorem kX6_partOf_58 {p : Program} {l : Launch} {e : Env} {s : State} {m : MethodId} {args : Array Value} {below : List Frame} {meth : Method} {c : Code} {D : va_G} {cI cZ : ClassId} {a : Nat → Nat} {A : Nat → Prop} {r : Int32} {M' : Mem} (C : Cx p s m args meth c cX6_partOf 13 RX6 (some .int) D cI cZ A) (K58 : Int32 → Int32 → Int32 → Int32 → Int32 → Int32 → Int32 → Int32 → Int32 → Int32 → Mem → Res) (hK58 : ∀ (x1 x2 x3 x4 x5 x6 x7 x8 x9 x10 : Int32) (M : Mem) (H : Heap) (locs : List Loc) (ls : Array Slot), K58 x1 x2 x3 x4 x5 x6 x7 x8 x9 x10 M = some (r, M') → St D (wB cI cZ a) A s.heap H locs M → lv_has ls 13 [(0, .ref (a 20)), (1, .int x1), (2, .int x2), (3, .int x3), (4, .int x4), (5, .int x5), (6, .int x6), (7, .int x7), (8, .int x8), (9, .int x9), (10, .int x10)] → Wi p l e { frames := 1, cells := 0, slots := 0, locals := 23 } s m args below meth c D (wB cI cZ a) A r M' H locs (F0 m 58 ls [])) (x1 x2 x3 x4 x5 x6 x7 x8 x9 x10 : Int32) (M : Mem) (H : Heap) (locs : List Loc) (ls : Array Slot) (hf : gX6_partOf_58 K58 x1 x2 x3 x4 x5 x6 x7 x8 x9 x10 M = some (r, M')) (hst : St D (wB cI cZ a) A s.heap H locs M) (hl : lv_has ls 13 [(0, .ref (a 20)), (1, .int x1), (2, .int x2), (3, .int x3), (4, .int x4), (5, .int x5), (6, .int x6), (7, .int x7), (8, .int x8), (9, .int x9), (10, .int x10)]) : Wi p l e { frames := 1, cells := 0, slots := 0, locals := 23 } s m args below meth c D (wB cI cZ a) A r M' H locs (F0 m 58 ls []) := by
  unfold gX6_partOf_58 at hf
  obtain ⟨hx, hb, hml, hown, hU, hr, hlk, hK, hA⟩ := id C
  refine lv_iload hx hb dX6_partOf_58 (lv_at hl 10 rfl) ?_
  refine lv_iconst (v := 4) hx hb dX6_partOf_60 (by decide) ?_
  refine lv_icmp_ge (tgt := 125) hx hb dX6_partOf_61 (by decide) (fun c_61 => ?_) (fun c_61 => ?_)
  · have hf := ifp c_61 hf
    refine lv_iload hx hb dX6_partOf_125 (lv_at hl 9 rfl) ?_
    refine lv_iload hx hb dX6_partOf_127 (lv_at hl 8 rfl) ?_
    refine lv_icmp_ge (tgt := 139) hx hb dX6_partOf_129 (by decide) (fun c_129 => ?_) (fun c_129 => ?_)
    · have hf := ifp c_129 hf
      refine lv_iload hx hb dX6_partOf_139 (lv_at hl 6 rfl) ?_
      obtain ⟨e1, e2⟩ := sinj hf
      subst e1
      subst e2
      exact w_iret C hst dX6_partOf_141
    · have hf := ifn c_129 hf
      refine lv_iload hx hb dX6_partOf_132 (lv_at hl 6 rfl) ?_
      refine lv_iconst (v := 1) hx hb dX6_partOf_134 (by decide) ?_
      refine lv_iadd hx hb dX6_partOf_135 ?_
      refine lv_goto (tgt := 141) hx hb dX6_partOf_136 (by decide) ?_
      obtain ⟨e1, e2⟩ := sinj hf
      subst e1
      subst e2
      exact w_iret C hst dX6_partOf_141
  · have hf := ifn c_61 hf
    refine lv_iload_n hx hb dX6_partOf_64 rfl (lv_at hl 3 rfl) ?_
    refine lv_aload_n hx hb dX6_partOf_65 rfl (lv_at hl 0 rfl) ?_
    refine gf_X6_9 C hst dX6_partOf_66 ?_
    refine lv_iload_n hx hb dX6_partOf_69 rfl (lv_at hl 1 rfl) ?_
    refine lv_iconst (v := 4) hx hb dX6_partOf_70 (by decide) ?_
    refine lv_imul hx hb dX6_partOf_71 ?_
    refine lv_iload hx hb dX6_partOf_72 (lv_at hl 10 rfl) ?_
    refine lv_iadd hx hb dX6_partOf_74 ?_
    obtain ⟨h_75, hf⟩ := og hf
    refine w_iald (N := 24) (f := M 21) C hst 21 rfl h_75 dX6_partOf_75 ?_
    refine lv_imul hx hb dX6_partOf_76 ?_
    refine lv_istore (lv' := [(11, .int (x3 * (M 21 (Int32.toNatClampNeg ((x1 * (4 : Int32)) + x10))))), (0, .ref (a 20)), (1, .int x1), (2, .int x2), (3, .int x3), (4, .int x4), (5, .int x5), (6, .int x6), (7, .int x7), (8, .int x8), (9, .int x9), (10, .int x10)]) hx hb dX6_partOf_77 hl (by decide) rfl (fun ls hl => ?_)
    refine lv_iload hx hb dX6_partOf_79 (lv_at hl 0 rfl) ?_
    refine lv_iload hx hb dX6_partOf_81 (lv_at hl 6 rfl) ?_
    obtain ⟨h_83, hf⟩ := og hf
    refine lv_irem hx hb dX6_partOf_83 h_83 ?_
    refine lv_istore (lv' := [(12, .int ((x3 * (M 21 (Int32.toNatClampNeg ((x1 * (4 : Int32)) + x10)))) - ((x3 * (M 21 (Int32.toNatClampNeg ((x1 * (4 : Int32)) + x10)))) / x5) * x5)), (11, .int (x3 * (M 21 (Int32.toNatClampNeg ((x1 * (4 : Int32)) + x10))))), (0, .ref (a 20)), (1, .int x1), (2, .int x2), (3, .int x3), (4, .int x4), (5, .int x5), (6, .int x6), (7, .int x7), (8, .int x8), (9, .int x9), (10, .int x10)]) hx hb dX6_partOf_84 hl (by decide) rfl (fun ls hl => ?_)
    refine lv_iload hx hb dX6_partOf_86 (lv_at hl 10 rfl) ?_
    refine lv_iload hx hb dX6_partOf_88 (lv_at hl 1 rfl) ?_
    refine lv_iload hx hb dX6_partOf_90 (lv_at hl 7 rfl) ?_
    refine lv_idiv hx hb dX6_partOf_92 h_83 ?_
    refine lv_isub hx hb dX6_partOf_93 ?_
    refine lv_istore (lv' := [(8, .int (x8 - ((x3 * (M 21 (Int32.toNatClampNeg ((x1 * (4 : Int32)) + x10)))) / x5))), (12, .int ((x3 * (M 21 (Int32.toNatClampNeg ((x1 * (4 : Int32)) + x10)))) - ((x3 * (M 21 (Int32.toNatClampNeg ((x1 * (4 : Int32)) + x10)))) / x5) * x5)), (11, .int (x3 * (M 21 (Int32.toNatClampNeg ((x1 * (4 : Int32)) + x10))))), (0, .ref (a 20)), (1, .int x1), (2, .int x2), (3, .int x3), (4, .int x4), (5, .int x5), (6, .int x6), (7, .int x7), (9, .int x9), (10, .int x10)]) hx hb dX6_partOf_94 hl (by decide) rfl (fun ls hl => ?_)
    refine lv_iload hx hb dX6_partOf_96 (lv_at hl 1 rfl) ?_
    refine lv_iload hx hb dX6_partOf_98 (lv_at hl 10 rfl) ?_
    refine lv_icmp_gt (tgt := 116) hx hb dX6_partOf_100 (by decide) (fun c_100 => ?_) (fun c_100 => ?_)
    · have hf := ifp c_100 hf
      exact kX6_partOf_116 C K58 hK58 x1 x2 x3 x4 x5 x6 x7 (x8 - ((x3 * (M 21 (Int32.toNatClampNeg ((x1 * (4 : Int32)) + x10)))) / x5)) x9 x10 (x3 * (M 21 (Int32.toNatClampNeg ((x1 * (4 : Int32)) + x10)))) ((x3 * (M 21 (Int32.toNatClampNeg ((x1 * (4 : Int32)) + x10)))) - ((x3 * (M 21 (Int32.toNatClampNeg ((x1 * (4 : Int32)) + x10)))) / x5) * x5) M _ _ _ hf hst (lv_sub hl [3, 4, 5, 6, 7, 8, 9, 10, 0, 11, 12, 2, 1] rfl)
    · have hf := ifn c_100 hf
      refine lv_iload hx hb dX6_partOf_103 (lv_at hl 1 rfl) ?_
      refine lv_iload hx hb dX6_partOf_105 (lv_at hl 10 rfl) ?_
      refine lv_icmp_ne (tgt := 119) hx hb dX6_partOf_107 (by decide) (fun c_107 => ?_) (fun c_107 => ?_)
      · have hf := ifn c_107 hf
        exact kX6_partOf_119 C K58 hK58 x1 x2 x3 x4 x5 x6 x7 (x8 - ((x3 * (M 21 (Int32.toNatClampNeg ((x1 * (4 : Int32)) + x10)))) / x5)) x9 x10 (x3 * (M 21 (Int32.toNatClampNeg ((x1 * (4 : Int32)) + x10)))) ((x3 * (M 21 (Int32.toNatClampNeg ((x1 * (4 : Int32)) + x10)))) - ((x3 * (M 21 (Int32.toNatClampNeg ((x1 * (4 : Int32)) + x10)))) / x5) * x5) M _ _ _ hf hst (lv_sub hl [3, 4, 5, 6, 7, 8, 9, 10, 0, 11, 12, 2, 1] rfl)
      · have hf := ifp c_107 hf
        refine lv_iload hx hb dX6_partOf_110 (lv_at hl 12 rfl) ?_
        refine lv_iload_n hx hb dX6_partOf_112 rfl (lv_at hl 5 rfl) ?_
        refine lv_icmp_ge (tgt := 119) hx hb dX6_partOf_113 (by decide) (fun c_113 => ?_) (fun c_113 => ?_)
        · have hf := ifp c_113 hf
          exact kX6_partOf_119 C K58 hK58 x1 x2 x3 x4 x5 x6 x7 (x8 - ((x3 * (M 21 (Int32.toNatClampNeg ((x1 * (4 : Int32)) + x10)))) / x5)) x9 x10 (x3 * (M 21 (Int32.toNatClampNeg ((x1 * (4 : Int32)) + x10)))) ((x3 * (M 21 (Int32.toNatClampNeg ((x1 * (4 : Int32)) + x10)))) - ((x3 * (M 21 (Int32.toNatClampNeg ((x1 * (4 : Int32)) + x10)))) / x5) * x5) M _ _ _ hf hst (lv_sub hl [3, 4, 5, 6, 7, 8, 9, 10, 0, 11, 12, 2, 1] rfl)
        · have hf := ifn c_113 hf
          exact kX6_partOf_116 C K58 hK58 x1 x2 x3 x4 x5 x6 x7 (x8 - ((x3 * (M 21 (Int32.toNatClampNeg ((x1 * (4 : Int32)) + x10)))) / x5)) x9 x10 (x3 * (M 21 (Int32.toNatClampNeg ((x1 * (4 : Int32)) + x10)))) ((x3 * (M 21 (Int32.toNatClampNeg ((x1 * (4 : Int32)) + x10)))) - ((x3 * (M 21 (Int32.toNatClampNeg ((x1 * (4 : Int32)) + x10)))) / x5) * x5) M _ _ _ hf hst (lv_sub hl [3, 4, 5, 6, 7, 8, 9, 10, 0, 11, 12, 2, 1] rfl)
theorem tX6_partOf_58 {p : Program} {l : Launch} {e : Env} {s : State} {m : MethodId} {args : Array Value} {below : List Frame} {meth : Method} {c : Code} {D : va_G} {cI cZ : ClassId} {a : Nat → Nat} {A : Nat → Prop} {r : Int32} {M' : Mem} (C : Cx p s m args meth c cX6_partOf 13 RX6 (some .int) D cI cZ A)  : ∀ (n : Nat) (x1 x2 x3 x4 x5 x6 x7 x8 x9 x10 : Int32) (M : Mem) (H : Heap) (locs : List Loc) (ls : Array Slot), lX6_partOf_58 n x1 x2 x3 x4 x5 x6 x7 x8 x9 x10 M = some (r, M') → St D (wB cI cZ a) A s.heap H locs M → lv_has ls 13 [(0, .ref (a 20)), (1, .int x1), (2, .int x2), (3, .int x3), (4, .int x4), (5, .int x5), (6, .int x6), (7, .int x7), (8, .int x8), (9, .int x9), (10, .int x10)] → Wi p l e { frames := 1, cells := 0, slots := 0, locals := 23 } s m args below meth c D (wB cI cZ a) A r M' H locs (F0 m 58 ls []) := by
  intro n
  induction n with
  | zero =>
    intro x1 x2 x3 x4 x5 x6 x7 x8 x9 x10 M H locs ls hf
    exact nomatch (show (none : Res) = some (r, M') from hf)
  | succ n ih =>
    intro x1 x2 x3 x4 x5 x6 x7 x8 x9 x10 M H locs ls hf hst hl
    exact kX6_partOf_58 C (lX6_partOf_58 n) ih x1 x2 x3 x4 x5 x6 x7 x8 x9 x10 M H locs ls hf hst hl

set_option maxHeartbeats 4000000 in
set_option maxRecDepth 100000 in
theorem kX6_partOf_0 {p : Program} {l : Launch} {e : Env} {s : State} {m : MethodId} {args : Array Value} {below : List Frame} {meth : Method} {c : Code} {D : va_G} {cI cZ : ClassId} {a : Nat → Nat} {A : Nat → Prop} {r : Int32} {M' : Mem} (C : Cx p s m args meth c cX6_partOf 13 RX6 (some .int) D cI cZ A)  (x1 x2 x3 : Int32) (M : Mem) (H : Heap) (locs : List Loc) (ls : Array Slot) (hf : fX6_partOf x1 x2 x3 M = some (r, M')) (hst : St D (wB cI cZ a) A s.heap H locs M) (hl : lv_has ls 13 [(0, .ref (a 20)), (1, .int x1), (2, .int x2), (3, .int x3)]) : Wi p l e { frames := 1, cells := 0, slots := 0, locals := 23 } s m args below meth c D (wB cI cZ a) A r M' H locs (F0 m 0 ls []) := by
  unfold fX6_partOf at hf
  obtain ⟨hx, hb, hml, hown, hU, hr, hlk, hK, hA⟩ := id C
  refine lv_aload_n hx hb dX6_partOf_0 rfl (lv_at hl 0 rfl) ?_
  refine gf_X6_9 C hst dX6_partOf_1 ?_
  refine lv_iload_n hx hb dX6_partOf_4 rfl (lv_at hl 1 rfl) ?_
  refine lv_iconst (v := 4) hx hb dX6_partOf_5 (by decide) ?_
  refine lv_imul hx hb dX6_partOf_6 ?_
  refine lv_iload_n hx hb dX6_partOf_7 rfl (lv_at hl 2 rfl) ?_
  refine lv_iadd hx hb dX6_partOf_8 ?_
  obtain ⟨h_9, hf⟩ := og hf
  refine w_iald (N := 24) (f := M 21) C hst 21 rfl h_9 dX6_partOf_9 ?_
  refine lv_istore (lv' := [(4, .int (M 21 (Int32.toNatClampNeg ((x1 * (4 : Int32)) + x2)))), (0, .ref (a 20)), (1, .int x1), (2, .int x2), (3, .int x3)]) hx hb dX6_partOf_10 hl (by decide) rfl (fun ls hl => ?_)
  refine lv_aload_n hx hb dX6_partOf_12 rfl (lv_at hl 1 rfl) ?_
  refine lv_iload_n hx hb dX6_partOf_13 rfl (lv_at hl 2 rfl) ?_
  obtain ⟨r_14, M_14, hc_14, hf⟩ := obi_some hf
  refine w_cVi (As := [.int x1]) (rest := []) C (wB_ad cI cZ a) (mX6_sumOf l D cI cZ a x1 M r_14 M_14 hc_14) calX6_sumOf cavX6_sumOf (mU2 221 rfl rfl) hst hl.1 20 6 rfl rfl rfl rfl (Nat.le_of_ble_eq_true rfl) ⟨Nat.le_of_ble_eq_true rfl, Nat.le_of_ble_eq_true rfl⟩ dX6_partOf_14 (fun H locs hst => ?_)
  refine lv_istore (lv' := [(5, .int r_14), (4, .int (M 21 (Int32.toNatClampNeg ((x1 * (4 : Int32)) + x2)))), (0, .ref (a 20)), (1, .int x1), (2, .int x2), (3, .int x3)]) hx hb dX6_partOf_17 hl (by decide) rfl (fun ls hl => ?_)
  refine lv_iload hx hb dX6_partOf_19 (lv_at hl 1 rfl) ?_
  refine lv_if_le (tgt := 29) hx hb dX6_partOf_21 (by decide) (fun c_21 => ?_) (fun c_21 => ?_)
  · have hf := ifp c_21 hf
    refine lv_iconst (v := 0) hx hb dX6_partOf_29 (by decide) ?_
    obtain ⟨e1, e2⟩ := sinj hf
    subst e1
    subst e2
    exact w_iret C hst dX6_partOf_30
  · have hf := ifn c_21 hf
    refine lv_iload hx hb dX6_partOf_24 (lv_at hl 0 rfl) ?_
    refine lv_if_gt (tgt := 31) hx hb dX6_partOf_26 (by decide) (fun c_26 => ?_) (fun c_26 => ?_)
    · have hf := ifp c_26 hf
      refine lv_iload_n hx hb dX6_partOf_31 rfl (lv_at hl 5 rfl) ?_
      refine lv_iload hx hb dX6_partOf_32 (lv_at hl 1 rfl) ?_
      refine lv_imul hx hb dX6_partOf_34 ?_
      refine lv_iload hx hb dX6_partOf_35 (lv_at hl 0 rfl) ?_
      obtain ⟨h_37, hf⟩ := og hf
      refine lv_idiv hx hb dX6_partOf_37 h_37 ?_
      refine lv_istore (lv' := [(6, .int ((x3 * (M 21 (Int32.toNatClampNeg ((x1 * (4 : Int32)) + x2)))) / r_14)), (5, .int r_14), (4, .int (M 21 (Int32.toNatClampNeg ((x1 * (4 : Int32)) + x2)))), (0, .ref (a 20)), (1, .int x1), (2, .int x2), (3, .int x3)]) hx hb dX6_partOf_38 hl (by decide) rfl (fun ls hl => ?_)
      refine lv_iload_n hx hb dX6_partOf_40 rfl (lv_at hl 6 rfl) ?_
      refine lv_iload hx hb dX6_partOf_41 (lv_at hl 2 rfl) ?_
      refine lv_imul hx hb dX6_partOf_43 ?_
      refine lv_iload hx hb dX6_partOf_44 (lv_at hl 1 rfl) ?_
      refine lv_irem hx hb dX6_partOf_46 h_37 ?_
      refine lv_istore (lv' := [(7, .int ((x3 * (M 21 (Int32.toNatClampNeg ((x1 * (4 : Int32)) + x2)))) - ((x3 * (M 21 (Int32.toNatClampNeg ((x1 * (4 : Int32)) + x2)))) / r_14) * r_14)), (6, .int ((x3 * (M 21 (Int32.toNatClampNeg ((x1 * (4 : Int32)) + x2)))) / r_14)), (5, .int r_14), (4, .int (M 21 (Int32.toNatClampNeg ((x1 * (4 : Int32)) + x2)))), (0, .ref (a 20)), (1, .int x1), (2, .int x2), (3, .int x3)]) hx hb dX6_partOf_47 hl (by decide) rfl (fun ls hl => ?_)
      refine lv_iload_n hx hb dX6_partOf_49 rfl (lv_at hl 7 rfl) ?_
      refine lv_istore (lv' := [(8, .int x3), (7, .int ((x3 * (M 21 (Int32.toNatClampNeg ((x1 * (4 : Int32)) + x2)))) - ((x3 * (M 21 (Int32.toNatClampNeg ((x1 * (4 : Int32)) + x2)))) / r_14) * r_14)), (6, .int ((x3 * (M 21 (Int32.toNatClampNeg ((x1 * (4 : Int32)) + x2)))) / r_14)), (5, .int r_14), (4, .int (M 21 (Int32.toNatClampNeg ((x1 * (4 : Int32)) + x2)))), (0, .ref (a 20)), (1, .int x1), (2, .int x2), (3, .int x3)]) hx hb dX6_partOf_50 hl (by decide) rfl (fun ls hl => ?_)
      refine lv_iconst (v := 0) hx hb dX6_partOf_52 (by decide) ?_
      refine lv_istore (lv' := [(9, .int (0 : Int32)), (8, .int x3), (7, .int ((x3 * (M 21 (Int32.toNatClampNeg ((x1 * (4 : Int32)) + x2)))) - ((x3 * (M 21 (Int32.toNatClampNeg ((x1 * (4 : Int32)) + x2)))) / r_14) * r_14)), (6, .int ((x3 * (M 21 (Int32.toNatClampNeg ((x1 * (4 : Int32)) + x2)))) / r_14)), (5, .int r_14), (4, .int (M 21 (Int32.toNatClampNeg ((x1 * (4 : Int32)) + x2)))), (0, .ref (a 20)), (1, .int x1), (2, .int x2), (3, .int x3)]) hx hb dX6_partOf_53 hl (by decide) rfl (fun ls hl => ?_)
      refine lv_iconst (v := 0) hx hb dX6_partOf_55 (by decide) ?_
      refine lv_istore (lv' := [(10, .int (0 : Int32)), (9, .int (0 : Int32)), (8, .int x3), (7, .int ((x3 * (M 21 (Int32.toNatClampNeg ((x1 * (4 : Int32)) + x2)))) - ((x3 * (M 21 (Int32.toNatClampNeg ((x1 * (4 : Int32)) + x2)))) / r_14) * r_14)), (6, .int ((x3 * (M 21 (Int32.toNatClampNeg ((x1 * (4 : Int32)) + x2)))) / r_14)), (5, .int r_14), (4, .int (M 21 (Int32.toNatClampNeg ((x1 * (4 : Int32)) + x2)))), (0, .ref (a 20)), (1, .int x1), (2, .int x2), (3, .int x3)]) hx hb dX6_partOf_56 hl (by decide) rfl (fun ls hl => ?_)
      exact tX6_partOf_58 C  fu x1 x2 x3 (M 21 (Int32.toNatClampNeg ((x1 * (4 : Int32)) + x2))) r_14 ((x3 * (M 21 (Int32.toNatClampNeg ((x1 * (4 : Int32)) + x2)))) / r_14) ((x3 * (M 21 (Int32.toNatClampNeg ((x1 * (4 : Int32)) + x2)))) - ((x3 * (M 21 (Int32.toNatClampNeg ((x1 * (4 : Int32)) + x2)))) / r_14) * r_14) x3 (0 : Int32) (0 : Int32) M_14 _ _ _ hf hst (lv_sub hl [7, 8, 9, 10, 6, 5, 4, 3, 2, 1, 0] rfl)
    · have hf := ifn c_26 hf
      refine lv_iconst (v := 0) hx hb dX6_partOf_29 (by decide) ?_
      obtain ⟨e1, e2⟩ := sinj hf
      subst e1
      subst e2
      exact w_iret C hst dX6_partOf_30
set_option maxRecDepth 100000 in
theorem mX6_partOf (l : Launch) (D : va_G) (cI cZ : ClassId) (a : Nat → Nat) (x1 x2 x3 : Int32) (M : Mem) (r : Int32) (M' : Mem) (hf : fX6_partOf x1 x2 x3 M = some (r, M')) : MI l D cI cZ (wB cI cZ a) yX6_partOf cX6_partOf 13 (some .int) 1 23 [.ref (a 20), .int x1, .int x2, .int x3] M r M' :=
  MI.of (by decide) (Nat.le_of_ble_eq_true rfl) (fun p e s m args below meth c A C hst ls hl => kX6_partOf_0 C x1 x2 x3 M s.heap [] ls hf hst hl)


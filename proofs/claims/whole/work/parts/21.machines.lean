def fX4_isFull (M : Mem) : Res :=
  (if (M 5 4) < (40 : Int32) then some ((0 : Int32), M) else some ((1 : Int32), M))
theorem calX4_isFull : Cal yX4_isFull cX4_isFull 1 (some .boolean) 0 := ⟨(mU1 229 rfl rfl), (mU1 3 rfl rfl), by decide +kernel⟩
theorem cavX4_isFull : CalV yX4_isFull := ⟨(mU1 227 rfl rfl), (mU1 228 rfl rfl)⟩
set_option maxHeartbeats 4000000 in
set_option maxRecDepth 100000 in
theorem kX4_isFull_0 {p : Program} {l : Launch} {e : Env} {s : State} {m : MethodId} {args : Array Value} {below : List Frame} {meth : Method} {c : Code} {D : va_G} {cI cZ : ClassId} {a : Nat → Nat} {A : Nat → Prop} {r : Int32} {M' : Mem} (C : Cx p s m args meth c cX4_isFull 1 RX4 (some .boolean) D cI cZ A)  (M : Mem) (H : Heap) (locs : List Loc) (ls : Array Slot) (hf : fX4_isFull M = some (r, M')) (hst : St D (wB cI cZ a) A s.heap H locs M) (hl : lv_has ls 1 [(0, .ref (a 5))]) : Wi p l e { frames := 0, cells := 0, slots := 0, locals := 0 } s m args below meth c D (wB cI cZ a) A r M' H locs (F0 m 0 ls []) := by
  unfold fX4_isFull at hf
  obtain ⟨hx, hb, hml, hown, hU, hr, hlk, hK, hA⟩ := id C
  refine lv_aload_n hx hb dX4_isFull_0 rfl (lv_at hl 0 rfl) ?_
  refine gf_X4_24 C hst dX4_isFull_1 ?_
  refine lv_bipush (v := 40) hx hb dX4_isFull_4 (by decide) ?_
  refine lv_icmp_lt (tgt := 13) hx hb dX4_isFull_6 (by decide) (fun c_6 => ?_) (fun c_6 => ?_)
  · have hf := ifp c_6 hf
    refine lv_iconst (v := 0) hx hb dX4_isFull_13 (by decide) ?_
    obtain ⟨e1, e2⟩ := sinj hf
    subst e1
    subst e2
    exact w_zret C rfl hst dX4_isFull_14
  · have hf := ifn c_6 hf
    refine lv_iconst (v := 1) hx hb dX4_isFull_9 (by decide) ?_
    refine lv_goto (tgt := 14) hx hb dX4_isFull_10 (by decide) ?_
    obtain ⟨e1, e2⟩ := sinj hf
    subst e1
    subst e2
    exact w_zret C rfl hst dX4_isFull_14
set_option maxRecDepth 100000 in
theorem mX4_isFull (l : Launch) (D : va_G) (cI cZ : ClassId) (a : Nat → Nat) (M : Mem) (r : Int32) (M' : Mem) (hf : fX4_isFull  M = some (r, M')) : MI l D cI cZ (wB cI cZ a) yX4_isFull cX4_isFull 1 (some .boolean) 0 0 [.ref (a 5)] M r M' :=
  MI.of (by decide) (Nat.le_of_ble_eq_true rfl) (fun p e s m args below meth c A C hst ls hl => kX4_isFull_0 C  M s.heap [] ls hf hst hl)

def fX4_isKnown (x1 : Int32) (M : Mem) : Res :=
  (if x1 < 0 then some ((0 : Int32), M) else (if (M 5 4) ≤ x1 then some ((0 : Int32), M) else some ((1 : Int32), M)))
theorem calX4_isKnown : Cal yX4_isKnown cX4_isKnown 2 (some .boolean) 1 := ⟨(mU2 13 rfl rfl), (mU1 3 rfl rfl), by decide +kernel⟩
theorem cavX4_isKnown : CalV yX4_isKnown := ⟨(mU2 11 rfl rfl), (mU2 12 rfl rfl)⟩
set_option maxHeartbeats 4000000 in
set_option maxRecDepth 100000 in
theorem kX4_isKnown_0 {p : Program} {l : Launch} {e : Env} {s : State} {m : MethodId} {args : Array Value} {below : List Frame} {meth : Method} {c : Code} {D : va_G} {cI cZ : ClassId} {a : Nat → Nat} {A : Nat → Prop} {r : Int32} {M' : Mem} (C : Cx p s m args meth c cX4_isKnown 2 RX4 (some .boolean) D cI cZ A)  (x1 : Int32) (M : Mem) (H : Heap) (locs : List Loc) (ls : Array Slot) (hf : fX4_isKnown x1 M = some (r, M')) (hst : St D (wB cI cZ a) A s.heap H locs M) (hl : lv_has ls 2 [(0, .ref (a 5)), (1, .int x1)]) : Wi p l e { frames := 0, cells := 0, slots := 0, locals := 0 } s m args below meth c D (wB cI cZ a) A r M' H locs (F0 m 0 ls []) := by
  unfold fX4_isKnown at hf
  obtain ⟨hx, hb, hml, hown, hU, hr, hlk, hK, hA⟩ := id C
  refine lv_iload_n hx hb dX4_isKnown_0 rfl (lv_at hl 1 rfl) ?_
  refine lv_if_lt (tgt := 16) hx hb dX4_isKnown_1 (by decide) (fun c_1 => ?_) (fun c_1 => ?_)
  · have hf := ifp c_1 hf
    refine lv_iconst (v := 0) hx hb dX4_isKnown_16 (by decide) ?_
    obtain ⟨e1, e2⟩ := sinj hf
    subst e1
    subst e2
    exact w_zret C rfl hst dX4_isKnown_17
  · have hf := ifn c_1 hf
    refine lv_iload_n hx hb dX4_isKnown_4 rfl (lv_at hl 1 rfl) ?_
    refine lv_aload_n hx hb dX4_isKnown_5 rfl (lv_at hl 0 rfl) ?_
    refine gf_X4_24 C hst dX4_isKnown_6 ?_
    refine lv_icmp_ge (tgt := 16) hx hb dX4_isKnown_9 (by decide) (fun c_9 => ?_) (fun c_9 => ?_)
    · have hf := ifp c_9 hf
      refine lv_iconst (v := 0) hx hb dX4_isKnown_16 (by decide) ?_
      obtain ⟨e1, e2⟩ := sinj hf
      subst e1
      subst e2
      exact w_zret C rfl hst dX4_isKnown_17
    · have hf := ifn c_9 hf
      refine lv_iconst (v := 1) hx hb dX4_isKnown_12 (by decide) ?_
      refine lv_goto (tgt := 17) hx hb dX4_isKnown_13 (by decide) ?_
      obtain ⟨e1, e2⟩ := sinj hf
      subst e1
      subst e2
      exact w_zret C rfl hst dX4_isKnown_17
set_option maxRecDepth 100000 in
theorem mX4_isKnown (l : Launch) (D : va_G) (cI cZ : ClassId) (a : Nat → Nat) (x1 : Int32) (M : Mem) (r : Int32) (M' : Mem) (hf : fX4_isKnown x1 M = some (r, M')) : MI l D cI cZ (wB cI cZ a) yX4_isKnown cX4_isKnown 2 (some .boolean) 0 0 [.ref (a 5), .int x1] M r M' :=
  MI.of (by decide) (Nat.le_of_ble_eq_true rfl) (fun p e s m args below meth c A C hst ls hl => kX4_isKnown_0 C x1 M s.heap [] ls hf hst hl)

def fX4_isRunning (x1 : Int32) (M : Mem) : Res :=
  obi (fX4_isKnown x1 M) (fun r_2 M_2 => (if r_2 = 0 then some ((0 : Int32), M_2) else if x1 < 0 ∨ 40 ≤ Int32.toNatClampNeg x1 then none else (if (M_2 9 (Int32.toNatClampNeg x1)) = (-1 : Int32) then some ((1 : Int32), M_2) else some ((0 : Int32), M_2))))
theorem calX4_isRunning : Cal yX4_isRunning cX4_isRunning 2 (some .boolean) 1 := ⟨(mU2 9 rfl rfl), (mU1 3 rfl rfl), by decide +kernel⟩
theorem cavX4_isRunning : CalV yX4_isRunning := ⟨(mU2 7 rfl rfl), (mU2 8 rfl rfl)⟩
set_option maxHeartbeats 4000000 in
set_option maxRecDepth 100000 in
theorem kX4_isRunning_0 {p : Program} {l : Launch} {e : Env} {s : State} {m : MethodId} {args : Array Value} {below : List Frame} {meth : Method} {c : Code} {D : va_G} {cI cZ : ClassId} {a : Nat → Nat} {A : Nat → Prop} {r : Int32} {M' : Mem} (C : Cx p s m args meth c cX4_isRunning 2 RX4 (some .boolean) D cI cZ A)  (x1 : Int32) (M : Mem) (H : Heap) (locs : List Loc) (ls : Array Slot) (hf : fX4_isRunning x1 M = some (r, M')) (hst : St D (wB cI cZ a) A s.heap H locs M) (hl : lv_has ls 2 [(0, .ref (a 5)), (1, .int x1)]) : Wi p l e { frames := 1, cells := 0, slots := 0, locals := 21 } s m args below meth c D (wB cI cZ a) A r M' H locs (F0 m 0 ls []) := by
  unfold fX4_isRunning at hf
  obtain ⟨hx, hb, hml, hown, hU, hr, hlk, hK, hA⟩ := id C
  refine lv_aload_n hx hb dX4_isRunning_0 rfl (lv_at hl 0 rfl) ?_
  refine lv_iload_n hx hb dX4_isRunning_1 rfl (lv_at hl 1 rfl) ?_
  obtain ⟨r_2, M_2, hc_2, hf⟩ := obi_some hf
  refine w_cVi (As := [.int x1]) (rest := []) C (wB_ad cI cZ a) (mX4_isKnown l D cI cZ a x1 M r_2 M_2 hc_2) calX4_isKnown cavX4_isKnown (mU2 10 rfl rfl) hst hl.1 5 4 rfl rfl rfl rfl (Nat.le_of_ble_eq_true rfl) ⟨Nat.le_of_ble_eq_true rfl, Nat.le_of_ble_eq_true rfl⟩ dX4_isRunning_2 (fun H locs hst => ?_)
  refine lv_if_eq (tgt := 22) hx hb dX4_isRunning_5 (by decide) (fun c_5 => ?_) (fun c_5 => ?_)
  · have hf := ifp c_5 hf
    refine lv_iconst (v := 0) hx hb dX4_isRunning_22 (by decide) ?_
    obtain ⟨e1, e2⟩ := sinj hf
    subst e1
    subst e2
    exact w_zret C rfl hst dX4_isRunning_23
  · have hf := ifn c_5 hf
    refine lv_aload_n hx hb dX4_isRunning_8 rfl (lv_at hl 0 rfl) ?_
    refine gf_X4_21 C hst dX4_isRunning_9 ?_
    refine lv_iload_n hx hb dX4_isRunning_12 rfl (lv_at hl 1 rfl) ?_
    obtain ⟨h_13, hf⟩ := og hf
    refine w_iald (N := 40) (f := M_2 9) C hst 9 rfl h_13 dX4_isRunning_13 ?_
    refine lv_iconst (v := -1) hx hb dX4_isRunning_14 (by decide) ?_
    refine lv_icmp_ne (tgt := 22) hx hb dX4_isRunning_15 (by decide) (fun c_15 => ?_) (fun c_15 => ?_)
    · have hf := ifn c_15 hf
      refine lv_iconst (v := 0) hx hb dX4_isRunning_22 (by decide) ?_
      obtain ⟨e1, e2⟩ := sinj hf
      subst e1
      subst e2
      exact w_zret C rfl hst dX4_isRunning_23
    · have hf := ifp c_15 hf
      refine lv_iconst (v := 1) hx hb dX4_isRunning_18 (by decide) ?_
      refine lv_goto (tgt := 23) hx hb dX4_isRunning_19 (by decide) ?_
      obtain ⟨e1, e2⟩ := sinj hf
      subst e1
      subst e2
      exact w_zret C rfl hst dX4_isRunning_23
set_option maxRecDepth 100000 in
theorem mX4_isRunning (l : Launch) (D : va_G) (cI cZ : ClassId) (a : Nat → Nat) (x1 : Int32) (M : Mem) (r : Int32) (M' : Mem) (hf : fX4_isRunning x1 M = some (r, M')) : MI l D cI cZ (wB cI cZ a) yX4_isRunning cX4_isRunning 2 (some .boolean) 1 21 [.ref (a 5), .int x1] M r M' :=
  MI.of (by decide) (Nat.le_of_ble_eq_true rfl) (fun p e s m args below meth c A C hst ls hl => kX4_isRunning_0 C x1 M s.heap [] ls hf hst hl)

def fX4_add (x1 x2 x3 : Int32) (M : Mem) : Res :=
  if (M 5 4) < 0 ∨ 40 ≤ Int32.toNatClampNeg (M 5 4) then none else some ((M 5 4), (upM (upM (upM (upM (upM (upM M 6 (Int32.toNatClampNeg (M 5 4)) x1) 7 (Int32.toNatClampNeg (M 5 4)) x2) 8 (Int32.toNatClampNeg (M 5 4)) x3) 9 (Int32.toNatClampNeg (M 5 4)) (-1 : Int32)) 5 4 (((upM (upM (upM (upM M 6 (Int32.toNatClampNeg (M 5 4)) x1) 7 (Int32.toNatClampNeg (M 5 4)) x2) 8 (Int32.toNatClampNeg (M 5 4)) x3) 9 (Int32.toNatClampNeg (M 5 4)) (-1 : Int32)) 5 4) + (1 : Int32))) 5 5 (((upM (upM (upM (upM (upM M 6 (Int32.toNatClampNeg (M 5 4)) x1) 7 (Int32.toNatClampNeg (M 5 4)) x2) 8 (Int32.toNatClampNeg (M 5 4)) x3) 9 (Int32.toNatClampNeg (M 5 4)) (-1 : Int32)) 5 4 (((upM (upM (upM (upM M 6 (Int32.toNatClampNeg (M 5 4)) x1) 7 (Int32.toNatClampNeg (M 5 4)) x2) 8 (Int32.toNatClampNeg (M 5 4)) x3) 9 (Int32.toNatClampNeg (M 5 4)) (-1 : Int32)) 5 4) + (1 : Int32))) 5 5) + (1 : Int32))))
theorem calX4_add : Cal yX4_add cX4_add 5 (some .int) 3 := ⟨(mU2 1 rfl rfl), (mU1 3 rfl rfl), by decide +kernel⟩
theorem cavX4_add : CalV yX4_add := ⟨(mU1 239 rfl rfl), (mU2 0 rfl rfl)⟩
set_option maxHeartbeats 4000000 in
set_option maxRecDepth 100000 in
theorem kX4_add_0 {p : Program} {l : Launch} {e : Env} {s : State} {m : MethodId} {args : Array Value} {below : List Frame} {meth : Method} {c : Code} {D : va_G} {cI cZ : ClassId} {a : Nat → Nat} {A : Nat → Prop} {r : Int32} {M' : Mem} (C : Cx p s m args meth c cX4_add 5 RX4 (some .int) D cI cZ A)  (x1 x2 x3 : Int32) (M : Mem) (H : Heap) (locs : List Loc) (ls : Array Slot) (hf : fX4_add x1 x2 x3 M = some (r, M')) (hst : St D (wB cI cZ a) A s.heap H locs M) (hl : lv_has ls 5 [(0, .ref (a 5)), (1, .int x1), (2, .int x2), (3, .int x3)]) : Wi p l e { frames := 0, cells := 0, slots := 0, locals := 0 } s m args below meth c D (wB cI cZ a) A r M' H locs (F0 m 0 ls []) := by
  unfold fX4_add at hf
  obtain ⟨hx, hb, hml, hown, hU, hr, hlk, hK, hA⟩ := id C
  refine lv_aload_n hx hb dX4_add_0 rfl (lv_at hl 0 rfl) ?_
  refine gf_X4_24 C hst dX4_add_1 ?_
  refine lv_istore (lv' := [(4, .int (M 5 4)), (0, .ref (a 5)), (1, .int x1), (2, .int x2), (3, .int x3)]) hx hb dX4_add_4 hl (by decide) rfl (fun ls hl => ?_)
  refine lv_aload_n hx hb dX4_add_6 rfl (lv_at hl 1 rfl) ?_
  refine gf_X4_9 C hst dX4_add_7 ?_
  refine lv_iload hx hb dX4_add_10 (lv_at hl 0 rfl) ?_
  refine lv_iload_n hx hb dX4_add_12 rfl (lv_at hl 2 rfl) ?_
  obtain ⟨h_13, hf⟩ := og hf
  refine w_iast (N := 40) (f := M 6) (M' := (upM M 6 (Int32.toNatClampNeg (M 5 4)) x1)) C hst 6 rfl (wB_set6 cI cZ a M (Int32.toNatClampNeg (M 5 4)) x1) h_13 dX4_add_13 (fun H locs hst => ?_)
  refine lv_aload_n hx hb dX4_add_14 rfl (lv_at hl 1 rfl) ?_
  refine gf_X4_15 C hst dX4_add_15 ?_
  refine lv_iload hx hb dX4_add_18 (lv_at hl 0 rfl) ?_
  refine lv_iload_n hx hb dX4_add_20 rfl (lv_at hl 3 rfl) ?_
  refine w_iast (N := 40) (f := (upM M 6 (Int32.toNatClampNeg (M 5 4)) x1) 7) (M' := (upM (upM M 6 (Int32.toNatClampNeg (M 5 4)) x1) 7 (Int32.toNatClampNeg (M 5 4)) x2)) C hst 7 rfl (wB_set7 cI cZ a (upM M 6 (Int32.toNatClampNeg (M 5 4)) x1) (Int32.toNatClampNeg (M 5 4)) x2) h_13 dX4_add_21 (fun H locs hst => ?_)
  refine lv_aload_n hx hb dX4_add_22 rfl (lv_at hl 1 rfl) ?_
  refine gf_X4_18 C hst dX4_add_23 ?_
  refine lv_iload hx hb dX4_add_26 (lv_at hl 0 rfl) ?_
  refine lv_iload_n hx hb dX4_add_28 rfl (lv_at hl 4 rfl) ?_
  refine w_iast (N := 40) (f := (upM (upM M 6 (Int32.toNatClampNeg (M 5 4)) x1) 7 (Int32.toNatClampNeg (M 5 4)) x2) 8) (M' := (upM (upM (upM M 6 (Int32.toNatClampNeg (M 5 4)) x1) 7 (Int32.toNatClampNeg (M 5 4)) x2) 8 (Int32.toNatClampNeg (M 5 4)) x3)) C hst 8 rfl (wB_set8 cI cZ a (upM (upM M 6 (Int32.toNatClampNeg (M 5 4)) x1) 7 (Int32.toNatClampNeg (M 5 4)) x2) (Int32.toNatClampNeg (M 5 4)) x3) h_13 dX4_add_29 (fun H locs hst => ?_)
  refine lv_aload_n hx hb dX4_add_30 rfl (lv_at hl 1 rfl) ?_
  refine gf_X4_21 C hst dX4_add_31 ?_
  refine lv_iload hx hb dX4_add_34 (lv_at hl 0 rfl) ?_
  refine lv_iconst (v := -1) hx hb dX4_add_36 (by decide) ?_
  refine w_iast (N := 40) (f := (upM (upM (upM M 6 (Int32.toNatClampNeg (M 5 4)) x1) 7 (Int32.toNatClampNeg (M 5 4)) x2) 8 (Int32.toNatClampNeg (M 5 4)) x3) 9) (M' := (upM (upM (upM (upM M 6 (Int32.toNatClampNeg (M 5 4)) x1) 7 (Int32.toNatClampNeg (M 5 4)) x2) 8 (Int32.toNatClampNeg (M 5 4)) x3) 9 (Int32.toNatClampNeg (M 5 4)) (-1 : Int32))) C hst 9 rfl (wB_set9 cI cZ a (upM (upM (upM M 6 (Int32.toNatClampNeg (M 5 4)) x1) 7 (Int32.toNatClampNeg (M 5 4)) x2) 8 (Int32.toNatClampNeg (M 5 4)) x3) (Int32.toNatClampNeg (M 5 4)) (-1 : Int32)) h_13 dX4_add_37 (fun H locs hst => ?_)
  refine lv_aload_n hx hb dX4_add_38 rfl (lv_at hl 1 rfl) ?_
  refine lv_dup hx hb dX4_add_39 rfl ?_
  refine gf_X4_24 C hst dX4_add_40 ?_
  refine lv_iconst (v := 1) hx hb dX4_add_43 (by decide) ?_
  refine lv_iadd hx hb dX4_add_44 ?_
  refine pf_X4_24 C hst dX4_add_45 (fun H locs hst => ?_)
  refine lv_aload_n hx hb dX4_add_48 rfl (lv_at hl 1 rfl) ?_
  refine lv_dup hx hb dX4_add_49 rfl ?_
  refine gf_X4_28 C hst dX4_add_50 ?_
  refine lv_iconst (v := 1) hx hb dX4_add_53 (by decide) ?_
  refine lv_iadd hx hb dX4_add_54 ?_
  refine pf_X4_28 C hst dX4_add_55 (fun H locs hst => ?_)
  refine lv_iload hx hb dX4_add_58 (lv_at hl 0 rfl) ?_
  obtain ⟨e1, e2⟩ := sinj hf
  subst e1
  subst e2
  exact w_iret C hst dX4_add_60
set_option maxRecDepth 100000 in
theorem mX4_add (l : Launch) (D : va_G) (cI cZ : ClassId) (a : Nat → Nat) (x1 x2 x3 : Int32) (M : Mem) (r : Int32) (M' : Mem) (hf : fX4_add x1 x2 x3 M = some (r, M')) : MI l D cI cZ (wB cI cZ a) yX4_add cX4_add 5 (some .int) 0 0 [.ref (a 5), .int x1, .int x2, .int x3] M r M' :=
  MI.of (by decide) (Nat.le_of_ble_eq_true rfl) (fun p e s m args below meth c A C hst ls hl => kX4_add_0 C x1 x2 x3 M s.heap [] ls hf hst hl)

def fX4_end (x1 x2 : Int32) (M : Mem) : Res :=
  if x1 < 0 ∨ 40 ≤ Int32.toNatClampNeg x1 then none else some (0, (upM (upM M 9 (Int32.toNatClampNeg x1) x2) 5 5 (((upM M 9 (Int32.toNatClampNeg x1) x2) 5 5) - (1 : Int32))))
theorem calX4_end : Cal yX4_end cX4_end 3 none 2 := ⟨(mU2 25 rfl rfl), (mU1 3 rfl rfl), by decide +kernel⟩
theorem cavX4_end : CalV yX4_end := ⟨(mU2 23 rfl rfl), (mU2 24 rfl rfl)⟩
set_option maxHeartbeats 4000000 in
set_option maxRecDepth 100000 in
theorem kX4_end_0 {p : Program} {l : Launch} {e : Env} {s : State} {m : MethodId} {args : Array Value} {below : List Frame} {meth : Method} {c : Code} {D : va_G} {cI cZ : ClassId} {a : Nat → Nat} {A : Nat → Prop} {r : Int32} {M' : Mem} (C : Cx p s m args meth c cX4_end 3 RX4 none D cI cZ A)  (x1 x2 : Int32) (M : Mem) (H : Heap) (locs : List Loc) (ls : Array Slot) (hf : fX4_end x1 x2 M = some (r, M')) (hst : St D (wB cI cZ a) A s.heap H locs M) (hl : lv_has ls 3 [(0, .ref (a 5)), (1, .int x1), (2, .int x2)]) : Wv p l e { frames := 0, cells := 0, slots := 0, locals := 0 } s m args below meth c D (wB cI cZ a) A M' H locs (F0 m 0 ls []) := by
  unfold fX4_end at hf
  obtain ⟨hx, hb, hml, hown, hU, hr, hlk, hK, hA⟩ := id C
  refine lv_aload_n hx hb dX4_end_0 rfl (lv_at hl 0 rfl) ?_
  refine gf_X4_21 C hst dX4_end_1 ?_
  refine lv_iload_n hx hb dX4_end_4 rfl (lv_at hl 1 rfl) ?_
  refine lv_iload_n hx hb dX4_end_5 rfl (lv_at hl 2 rfl) ?_
  obtain ⟨h_6, hf⟩ := og hf
  refine w_iast (N := 40) (f := M 9) (M' := (upM M 9 (Int32.toNatClampNeg x1) x2)) C hst 9 rfl (wB_set9 cI cZ a M (Int32.toNatClampNeg x1) x2) h_6 dX4_end_6 (fun H locs hst => ?_)
  refine lv_aload_n hx hb dX4_end_7 rfl (lv_at hl 0 rfl) ?_
  refine lv_dup hx hb dX4_end_8 rfl ?_
  refine gf_X4_28 C hst dX4_end_9 ?_
  refine lv_iconst (v := 1) hx hb dX4_end_12 (by decide) ?_
  refine lv_isub hx hb dX4_end_13 ?_
  refine pf_X4_28 C hst dX4_end_14 (fun H locs hst => ?_)
  obtain ⟨e1, e2⟩ := sinj hf
  subst e1
  subst e2
  exact w_vret C hst dX4_end_17
set_option maxRecDepth 100000 in
theorem mX4_end (l : Launch) (D : va_G) (cI cZ : ClassId) (a : Nat → Nat) (x1 x2 : Int32) (M : Mem) (r : Int32) (M' : Mem) (hf : fX4_end x1 x2 M = some (r, M')) : MV l D cI cZ (wB cI cZ a) yX4_end cX4_end 3 0 0 [.ref (a 5), .int x1, .int x2] M M' :=
  MV.of (by decide) (Nat.le_of_ble_eq_true rfl) (fun p e s m args below meth c A C hst ls hl => kX4_end_0 C x1 x2 M s.heap [] ls hf hst hl)

def fX4_begunCount (M : Mem) : Res :=
  some ((M 5 4), M)
theorem calX4_begunCount : Cal yX4_begunCount cX4_begunCount 1 (some .int) 0 := ⟨(mU2 118 rfl rfl), (mU1 3 rfl rfl), by decide +kernel⟩
theorem cavX4_begunCount : CalV yX4_begunCount := ⟨(mU2 116 rfl rfl), (mU2 117 rfl rfl)⟩
set_option maxHeartbeats 4000000 in
set_option maxRecDepth 100000 in
theorem kX4_begunCount_0 {p : Program} {l : Launch} {e : Env} {s : State} {m : MethodId} {args : Array Value} {below : List Frame} {meth : Method} {c : Code} {D : va_G} {cI cZ : ClassId} {a : Nat → Nat} {A : Nat → Prop} {r : Int32} {M' : Mem} (C : Cx p s m args meth c cX4_begunCount 1 RX4 (some .int) D cI cZ A)  (M : Mem) (H : Heap) (locs : List Loc) (ls : Array Slot) (hf : fX4_begunCount M = some (r, M')) (hst : St D (wB cI cZ a) A s.heap H locs M) (hl : lv_has ls 1 [(0, .ref (a 5))]) : Wi p l e { frames := 0, cells := 0, slots := 0, locals := 0 } s m args below meth c D (wB cI cZ a) A r M' H locs (F0 m 0 ls []) := by
  unfold fX4_begunCount at hf
  obtain ⟨hx, hb, hml, hown, hU, hr, hlk, hK, hA⟩ := id C
  refine lv_aload_n hx hb dX4_begunCount_0 rfl (lv_at hl 0 rfl) ?_
  refine gf_X4_24 C hst dX4_begunCount_1 ?_
  obtain ⟨e1, e2⟩ := sinj hf
  subst e1
  subst e2
  exact w_iret C hst dX4_begunCount_4
set_option maxRecDepth 100000 in
theorem mX4_begunCount (l : Launch) (D : va_G) (cI cZ : ClassId) (a : Nat → Nat) (M : Mem) (r : Int32) (M' : Mem) (hf : fX4_begunCount  M = some (r, M')) : MI l D cI cZ (wB cI cZ a) yX4_begunCount cX4_begunCount 1 (some .int) 0 0 [.ref (a 5)] M r M' :=
  MI.of (by decide) (Nat.le_of_ble_eq_true rfl) (fun p e s m args below meth c A C hst ls hl => kX4_begunCount_0 C  M s.heap [] ls hf hst hl)

def fX4_runningCount (M : Mem) : Res :=
  some ((M 5 5), M)
theorem calX4_runningCount : Cal yX4_runningCount cX4_runningCount 1 (some .int) 0 := ⟨(mU2 122 rfl rfl), (mU1 3 rfl rfl), by decide +kernel⟩
theorem cavX4_runningCount : CalV yX4_runningCount := ⟨(mU2 120 rfl rfl), (mU2 121 rfl rfl)⟩
set_option maxHeartbeats 4000000 in
set_option maxRecDepth 100000 in
theorem kX4_runningCount_0 {p : Program} {l : Launch} {e : Env} {s : State} {m : MethodId} {args : Array Value} {below : List Frame} {meth : Method} {c : Code} {D : va_G} {cI cZ : ClassId} {a : Nat → Nat} {A : Nat → Prop} {r : Int32} {M' : Mem} (C : Cx p s m args meth c cX4_runningCount 1 RX4 (some .int) D cI cZ A)  (M : Mem) (H : Heap) (locs : List Loc) (ls : Array Slot) (hf : fX4_runningCount M = some (r, M')) (hst : St D (wB cI cZ a) A s.heap H locs M) (hl : lv_has ls 1 [(0, .ref (a 5))]) : Wi p l e { frames := 0, cells := 0, slots := 0, locals := 0 } s m args below meth c D (wB cI cZ a) A r M' H locs (F0 m 0 ls []) := by
  unfold fX4_runningCount at hf
  obtain ⟨hx, hb, hml, hown, hU, hr, hlk, hK, hA⟩ := id C
  refine lv_aload_n hx hb dX4_runningCount_0 rfl (lv_at hl 0 rfl) ?_
  refine gf_X4_28 C hst dX4_runningCount_1 ?_
  obtain ⟨e1, e2⟩ := sinj hf
  subst e1
  subst e2
  exact w_iret C hst dX4_runningCount_4
set_option maxRecDepth 100000 in
theorem mX4_runningCount (l : Launch) (D : va_G) (cI cZ : ClassId) (a : Nat → Nat) (M : Mem) (r : Int32) (M' : Mem) (hf : fX4_runningCount  M = some (r, M')) : MI l D cI cZ (wB cI cZ a) yX4_runningCount cX4_runningCount 1 (some .int) 0 0 [.ref (a 5)] M r M' :=
  MI.of (by decide) (Nat.le_of_ble_eq_true rfl) (fun p e s m args below meth c A C hst ls hl => kX4_runningCount_0 C  M s.heap [] ls hf hst hl)

def fX4_serviceOf (x1 : Int32) (M : Mem) : Res :=
  if x1 < 0 ∨ 40 ≤ Int32.toNatClampNeg x1 then none else some ((M 6 (Int32.toNatClampNeg x1)), M)
theorem calX4_serviceOf : Cal yX4_serviceOf cX4_serviceOf 2 (some .int) 1 := ⟨(mU2 17 rfl rfl), (mU1 3 rfl rfl), by decide +kernel⟩
theorem cavX4_serviceOf : CalV yX4_serviceOf := ⟨(mU2 15 rfl rfl), (mU2 16 rfl rfl)⟩
set_option maxHeartbeats 4000000 in
set_option maxRecDepth 100000 in
theorem kX4_serviceOf_0 {p : Program} {l : Launch} {e : Env} {s : State} {m : MethodId} {args : Array Value} {below : List Frame} {meth : Method} {c : Code} {D : va_G} {cI cZ : ClassId} {a : Nat → Nat} {A : Nat → Prop} {r : Int32} {M' : Mem} (C : Cx p s m args meth c cX4_serviceOf 2 RX4 (some .int) D cI cZ A)  (x1 : Int32) (M : Mem) (H : Heap) (locs : List Loc) (ls : Array Slot) (hf : fX4_serviceOf x1 M = some (r, M')) (hst : St D (wB cI cZ a) A s.heap H locs M) (hl : lv_has ls 2 [(0, .ref (a 5)), (1, .int x1)]) : Wi p l e { frames := 0, cells := 0, slots := 0, locals := 0 } s m args below meth c D (wB cI cZ a) A r M' H locs (F0 m 0 ls []) := by
  unfold fX4_serviceOf at hf
  obtain ⟨hx, hb, hml, hown, hU, hr, hlk, hK, hA⟩ := id C
  refine lv_aload_n hx hb dX4_serviceOf_0 rfl (lv_at hl 0 rfl) ?_
  refine gf_X4_9 C hst dX4_serviceOf_1 ?_
  refine lv_iload_n hx hb dX4_serviceOf_4 rfl (lv_at hl 1 rfl) ?_
  obtain ⟨h_5, hf⟩ := og hf
  refine w_iald (N := 40) (f := M 6) C hst 6 rfl h_5 dX4_serviceOf_5 ?_
  obtain ⟨e1, e2⟩ := sinj hf
  subst e1
  subst e2
  exact w_iret C hst dX4_serviceOf_6
set_option maxRecDepth 100000 in
theorem mX4_serviceOf (l : Launch) (D : va_G) (cI cZ : ClassId) (a : Nat → Nat) (x1 : Int32) (M : Mem) (r : Int32) (M' : Mem) (hf : fX4_serviceOf x1 M = some (r, M')) : MI l D cI cZ (wB cI cZ a) yX4_serviceOf cX4_serviceOf 2 (some .int) 0 0 [.ref (a 5), .int x1] M r M' :=
  MI.of (by decide) (Nat.le_of_ble_eq_true rfl) (fun p e s m args below meth c A C hst ls hl => kX4_serviceOf_0 C x1 M s.heap [] ls hf hst hl)

def fX4_priceOf (x1 : Int32) (M : Mem) : Res :=
  if x1 < 0 ∨ 40 ≤ Int32.toNatClampNeg x1 then none else some ((M 7 (Int32.toNatClampNeg x1)), M)
theorem calX4_priceOf : Cal yX4_priceOf cX4_priceOf 2 (some .int) 1 := ⟨(mU2 21 rfl rfl), (mU1 3 rfl rfl), by decide +kernel⟩
theorem cavX4_priceOf : CalV yX4_priceOf := ⟨(mU2 19 rfl rfl), (mU2 20 rfl rfl)⟩
set_option maxHeartbeats 4000000 in
set_option maxRecDepth 100000 in
theorem kX4_priceOf_0 {p : Program} {l : Launch} {e : Env} {s : State} {m : MethodId} {args : Array Value} {below : List Frame} {meth : Method} {c : Code} {D : va_G} {cI cZ : ClassId} {a : Nat → Nat} {A : Nat → Prop} {r : Int32} {M' : Mem} (C : Cx p s m args meth c cX4_priceOf 2 RX4 (some .int) D cI cZ A)  (x1 : Int32) (M : Mem) (H : Heap) (locs : List Loc) (ls : Array Slot) (hf : fX4_priceOf x1 M = some (r, M')) (hst : St D (wB cI cZ a) A s.heap H locs M) (hl : lv_has ls 2 [(0, .ref (a 5)), (1, .int x1)]) : Wi p l e { frames := 0, cells := 0, slots := 0, locals := 0 } s m args below meth c D (wB cI cZ a) A r M' H locs (F0 m 0 ls []) := by
  unfold fX4_priceOf at hf
  obtain ⟨hx, hb, hml, hown, hU, hr, hlk, hK, hA⟩ := id C
  refine lv_aload_n hx hb dX4_priceOf_0 rfl (lv_at hl 0 rfl) ?_
  refine gf_X4_15 C hst dX4_priceOf_1 ?_
  refine lv_iload_n hx hb dX4_priceOf_4 rfl (lv_at hl 1 rfl) ?_
  obtain ⟨h_5, hf⟩ := og hf
  refine w_iald (N := 40) (f := M 7) C hst 7 rfl h_5 dX4_priceOf_5 ?_
  obtain ⟨e1, e2⟩ := sinj hf
  subst e1
  subst e2
  exact w_iret C hst dX4_priceOf_6
set_option maxRecDepth 100000 in
theorem mX4_priceOf (l : Launch) (D : va_G) (cI cZ : ClassId) (a : Nat → Nat) (x1 : Int32) (M : Mem) (r : Int32) (M' : Mem) (hf : fX4_priceOf x1 M = some (r, M')) : MI l D cI cZ (wB cI cZ a) yX4_priceOf cX4_priceOf 2 (some .int) 0 0 [.ref (a 5), .int x1] M r M' :=
  MI.of (by decide) (Nat.le_of_ble_eq_true rfl) (fun p e s m args below meth c A C hst ls hl => kX4_priceOf_0 C x1 M s.heap [] ls hf hst hl)

def fX4_begunAt (x1 : Int32) (M : Mem) : Res :=
  if x1 < 0 ∨ 40 ≤ Int32.toNatClampNeg x1 then none else some ((M 8 (Int32.toNatClampNeg x1)), M)
theorem calX4_begunAt : Cal yX4_begunAt cX4_begunAt 2 (some .int) 1 := ⟨(mU2 139 rfl rfl), (mU1 3 rfl rfl), by decide +kernel⟩
theorem cavX4_begunAt : CalV yX4_begunAt := ⟨(mU2 137 rfl rfl), (mU2 138 rfl rfl)⟩
set_option maxHeartbeats 4000000 in
set_option maxRecDepth 100000 in
theorem kX4_begunAt_0 {p : Program} {l : Launch} {e : Env} {s : State} {m : MethodId} {args : Array Value} {below : List Frame} {meth : Method} {c : Code} {D : va_G} {cI cZ : ClassId} {a : Nat → Nat} {A : Nat → Prop} {r : Int32} {M' : Mem} (C : Cx p s m args meth c cX4_begunAt 2 RX4 (some .int) D cI cZ A)  (x1 : Int32) (M : Mem) (H : Heap) (locs : List Loc) (ls : Array Slot) (hf : fX4_begunAt x1 M = some (r, M')) (hst : St D (wB cI cZ a) A s.heap H locs M) (hl : lv_has ls 2 [(0, .ref (a 5)), (1, .int x1)]) : Wi p l e { frames := 0, cells := 0, slots := 0, locals := 0 } s m args below meth c D (wB cI cZ a) A r M' H locs (F0 m 0 ls []) := by
  unfold fX4_begunAt at hf
  obtain ⟨hx, hb, hml, hown, hU, hr, hlk, hK, hA⟩ := id C
  refine lv_aload_n hx hb dX4_begunAt_0 rfl (lv_at hl 0 rfl) ?_
  refine gf_X4_18 C hst dX4_begunAt_1 ?_
  refine lv_iload_n hx hb dX4_begunAt_4 rfl (lv_at hl 1 rfl) ?_
  obtain ⟨h_5, hf⟩ := og hf
  refine w_iald (N := 40) (f := M 8) C hst 8 rfl h_5 dX4_begunAt_5 ?_
  obtain ⟨e1, e2⟩ := sinj hf
  subst e1
  subst e2
  exact w_iret C hst dX4_begunAt_6
set_option maxRecDepth 100000 in
theorem mX4_begunAt (l : Launch) (D : va_G) (cI cZ : ClassId) (a : Nat → Nat) (x1 : Int32) (M : Mem) (r : Int32) (M' : Mem) (hf : fX4_begunAt x1 M = some (r, M')) : MI l D cI cZ (wB cI cZ a) yX4_begunAt cX4_begunAt 2 (some .int) 0 0 [.ref (a 5), .int x1] M r M' :=
  MI.of (by decide) (Nat.le_of_ble_eq_true rfl) (fun p e s m args below meth c A C hst ls hl => kX4_begunAt_0 C x1 M s.heap [] ls hf hst hl)

def fX4_stoppedAt (x1 : Int32) (M : Mem) : Res :=
  if x1 < 0 ∨ 40 ≤ Int32.toNatClampNeg x1 then none else some ((M 9 (Int32.toNatClampNeg x1)), M)
theorem calX4_stoppedAt : Cal yX4_stoppedAt cX4_stoppedAt 2 (some .int) 1 := ⟨(mU2 143 rfl rfl), (mU1 3 rfl rfl), by decide +kernel⟩
theorem cavX4_stoppedAt : CalV yX4_stoppedAt := ⟨(mU2 141 rfl rfl), (mU2 142 rfl rfl)⟩
set_option maxHeartbeats 4000000 in
set_option maxRecDepth 100000 in
theorem kX4_stoppedAt_0 {p : Program} {l : Launch} {e : Env} {s : State} {m : MethodId} {args : Array Value} {below : List Frame} {meth : Method} {c : Code} {D : va_G} {cI cZ : ClassId} {a : Nat → Nat} {A : Nat → Prop} {r : Int32} {M' : Mem} (C : Cx p s m args meth c cX4_stoppedAt 2 RX4 (some .int) D cI cZ A)  (x1 : Int32) (M : Mem) (H : Heap) (locs : List Loc) (ls : Array Slot) (hf : fX4_stoppedAt x1 M = some (r, M')) (hst : St D (wB cI cZ a) A s.heap H locs M) (hl : lv_has ls 2 [(0, .ref (a 5)), (1, .int x1)]) : Wi p l e { frames := 0, cells := 0, slots := 0, locals := 0 } s m args below meth c D (wB cI cZ a) A r M' H locs (F0 m 0 ls []) := by
  unfold fX4_stoppedAt at hf
  obtain ⟨hx, hb, hml, hown, hU, hr, hlk, hK, hA⟩ := id C
  refine lv_aload_n hx hb dX4_stoppedAt_0 rfl (lv_at hl 0 rfl) ?_
  refine gf_X4_21 C hst dX4_stoppedAt_1 ?_
  refine lv_iload_n hx hb dX4_stoppedAt_4 rfl (lv_at hl 1 rfl) ?_
  obtain ⟨h_5, hf⟩ := og hf
  refine w_iald (N := 40) (f := M 9) C hst 9 rfl h_5 dX4_stoppedAt_5 ?_
  obtain ⟨e1, e2⟩ := sinj hf
  subst e1
  subst e2
  exact w_iret C hst dX4_stoppedAt_6
set_option maxRecDepth 100000 in
theorem mX4_stoppedAt (l : Launch) (D : va_G) (cI cZ : ClassId) (a : Nat → Nat) (x1 : Int32) (M : Mem) (r : Int32) (M' : Mem) (hf : fX4_stoppedAt x1 M = some (r, M')) : MI l D cI cZ (wB cI cZ a) yX4_stoppedAt cX4_stoppedAt 2 (some .int) 0 0 [.ref (a 5), .int x1] M r M' :=
  MI.of (by decide) (Nat.le_of_ble_eq_true rfl) (fun p e s m args below meth c A C hst ls hl => kX4_stoppedAt_0 C x1 M s.heap [] ls hf hst hl)

def gX4_newestDearest_77 (K5 : Int32 → Int32 → Int32 → Int32 → Mem → Res) (x1 x2 x3 x4 : Int32) (M : Mem) : Res :=
  K5 x1 x2 x3 (x4 + 1) M
def gX4_newestDearest_74 (K5 : Int32 → Int32 → Int32 → Int32 → Mem → Res) (x1 x2 x3 x4 : Int32) (M : Mem) : Res :=
  gX4_newestDearest_77 K5 x1 x2 x4 x4 M
def gX4_newestDearest_5 (K5 : Int32 → Int32 → Int32 → Int32 → Mem → Res) (x1 x2 x3 x4 : Int32) (M : Mem) : Res :=
  (if (M 5 4) ≤ x4 then some (x3, M) else if x4 < 0 ∨ 40 ≤ Int32.toNatClampNeg x4 then none else (if (M 6 (Int32.toNatClampNeg x4)) = x1 then (if (M 9 (Int32.toNatClampNeg x4)) = (-1 : Int32) then (if (x2 - (24 : Int32)) < (M 8 (Int32.toNatClampNeg x4)) then (if x3 = (-1 : Int32) then gX4_newestDearest_74 K5 x1 x2 x3 x4 M else if x3 < 0 ∨ 40 ≤ Int32.toNatClampNeg x3 then none else (if (M 7 (Int32.toNatClampNeg x4)) ≤ (M 7 (Int32.toNatClampNeg x3)) then gX4_newestDearest_77 K5 x1 x2 x3 x4 M else gX4_newestDearest_74 K5 x1 x2 x3 x4 M)) else gX4_newestDearest_77 K5 x1 x2 x3 x4 M) else gX4_newestDearest_77 K5 x1 x2 x3 x4 M) else gX4_newestDearest_77 K5 x1 x2 x3 x4 M))
def lX4_newestDearest_5 : Nat → Int32 → Int32 → Int32 → Int32 → Mem → Res
  | 0, _, _, _, _, _ => none
  | n + 1, x1, x2, x3, x4, M => gX4_newestDearest_5 (lX4_newestDearest_5 n) x1 x2 x3 x4 M
def fX4_newestDearest (x1 x2 : Int32) (M : Mem) : Res :=
  lX4_newestDearest_5  fu x1 x2 (-1 : Int32) (0 : Int32) M
theorem calX4_newestDearest : Cal yX4_newestDearest cX4_newestDearest 5 (some .int) 2 := ⟨(mU2 90 rfl rfl), (mU1 3 rfl rfl), by decide +kernel⟩
theorem cavX4_newestDearest : CalV yX4_newestDearest := ⟨(mU2 88 rfl rfl), (mU2 89 rfl rfl)⟩
set_option maxHeartbeats 4000000 in
set_option maxRecDepth 100000 in
theorem kX4_newestDearest_77 {p : Program} {l : Launch} {e : Env} {s : State} {m : MethodId} {args : Array Value} {below : List Frame} {meth : Method} {c : Code} {D : va_G} {cI cZ : ClassId} {a : Nat → Nat} {A : Nat → Prop} {r : Int32} {M' : Mem} (C : Cx p s m args meth c cX4_newestDearest 5 RX4 (some .int) D cI cZ A) (K5 : Int32 → Int32 → Int32 → Int32 → Mem → Res) (hK5 : ∀ (x1 x2 x3 x4 : Int32) (M : Mem) (H : Heap) (locs : List Loc) (ls : Array Slot), K5 x1 x2 x3 x4 M = some (r, M') → St D (wB cI cZ a) A s.heap H locs M → lv_has ls 5 [(0, .ref (a 5)), (1, .int x1), (2, .int x2), (3, .int x3), (4, .int x4)] → Wi p l e { frames := 0, cells := 0, slots := 0, locals := 0 } s m args below meth c D (wB cI cZ a) A r M' H locs (F0 m 5 ls [])) (x1 x2 x3 x4 : Int32) (M : Mem) (H : Heap) (locs : List Loc) (ls : Array Slot) (hf : gX4_newestDearest_77 K5 x1 x2 x3 x4 M = some (r, M')) (hst : St D (wB cI cZ a) A s.heap H locs M) (hl : lv_has ls 5 [(0, .ref (a 5)), (1, .int x1), (2, .int x2), (3, .int x3), (4, .int x4)]) : Wi p l e { frames := 0, cells := 0, slots := 0, locals := 0 } s m args below meth c D (wB cI cZ a) A r M' H locs (F0 m 77 ls []) := by
  unfold gX4_newestDearest_77 at hf
  obtain ⟨hx, hb, hml, hown, hU, hr, hlk, hK, hA⟩ := id C
  refine lv_iinc (v := (x4 + 1)) (lv' := [(4, .int (x4 + 1)), (0, .ref (a 5)), (1, .int x1), (2, .int x2), (3, .int x3)]) hx hb dX4_newestDearest_77 hl (k := 4) rfl rfl (by decide) rfl (fun ls hl => ?_)
  refine lv_goto (tgt := 5) hx hb dX4_newestDearest_80 (by decide) ?_
  exact hK5 x1 x2 x3 (x4 + 1) M _ _ _ hf hst (lv_sub hl [1, 2, 3, 4, 0] rfl)
set_option maxHeartbeats 4000000 in
set_option maxRecDepth 100000 in
theorem kX4_newestDearest_74 {p : Program} {l : Launch} {e : Env} {s : State} {m : MethodId} {args : Array Value} {below : List Frame} {meth : Method} {c : Code} {D : va_G} {cI cZ : ClassId} {a : Nat → Nat} {A : Nat → Prop} {r : Int32} {M' : Mem} (C : Cx p s m args meth c cX4_newestDearest 5 RX4 (some .int) D cI cZ A) (K5 : Int32 → Int32 → Int32 → Int32 → Mem → Res) (hK5 : ∀ (x1 x2 x3 x4 : Int32) (M : Mem) (H : Heap) (locs : List Loc) (ls : Array Slot), K5 x1 x2 x3 x4 M = some (r, M') → St D (wB cI cZ a) A s.heap H locs M → lv_has ls 5 [(0, .ref (a 5)), (1, .int x1), (2, .int x2), (3, .int x3), (4, .int x4)] → Wi p l e { frames := 0, cells := 0, slots := 0, locals := 0 } s m args below meth c D (wB cI cZ a) A r M' H locs (F0 m 5 ls [])) (x1 x2 x3 x4 : Int32) (M : Mem) (H : Heap) (locs : List Loc) (ls : Array Slot) (hf : gX4_newestDearest_74 K5 x1 x2 x3 x4 M = some (r, M')) (hst : St D (wB cI cZ a) A s.heap H locs M) (hl : lv_has ls 5 [(0, .ref (a 5)), (1, .int x1), (2, .int x2), (3, .int x3), (4, .int x4)]) : Wi p l e { frames := 0, cells := 0, slots := 0, locals := 0 } s m args below meth c D (wB cI cZ a) A r M' H locs (F0 m 74 ls []) := by
  unfold gX4_newestDearest_74 at hf
  obtain ⟨hx, hb, hml, hown, hU, hr, hlk, hK, hA⟩ := id C
  refine lv_iload hx hb dX4_newestDearest_74 (lv_at hl 4 rfl) ?_
  refine lv_istore_n (lv' := [(3, .int x4), (0, .ref (a 5)), (1, .int x1), (2, .int x2), (4, .int x4)]) hx hb dX4_newestDearest_76 rfl hl (by decide) rfl (fun ls hl => ?_)
  exact kX4_newestDearest_77 C K5 hK5 x1 x2 x4 x4 M _ _ _ hf hst (lv_sub hl [1, 2, 3, 0, 4] rfl)
set_option maxHeartbeats 4000000 in
set_option maxRecDepth 100000 in
theorem kX4_newestDearest_5 {p : Program} {l : Launch} {e : Env} {s : State} {m : MethodId} {args : Array Value} {below : List Frame} {meth : Method} {c : Code} {D : va_G} {cI cZ : ClassId} {a : Nat → Nat} {A : Nat → Prop} {r : Int32} {M' : Mem} (C : Cx p s m args meth c cX4_newestDearest 5 RX4 (some .int) D cI cZ A) (K5 : Int32 → Int32 → Int32 → Int32 → Mem → Res) (hK5 : ∀ (x1 x2 x3 x4 : Int32) (M : Mem) (H : Heap) (locs : List Loc) (ls : Array Slot), K5 x1 x2 x3 x4 M = some (r, M') → St D (wB cI cZ a) A s.heap H locs M → lv_has ls 5 [(0, .ref (a 5)), (1, .int x1), (2, .int x2), (3, .int x3), (4, .int x4)] → Wi p l e { frames := 0, cells := 0, slots := 0, locals := 0 } s m args below meth c D (wB cI cZ a) A r M' H locs (F0 m 5 ls [])) (x1 x2 x3 x4 : Int32) (M : Mem) (H : Heap) (locs : List Loc) (ls : Array Slot) (hf : gX4_newestDearest_5 K5 x1 x2 x3 x4 M = some (r, M')) (hst : St D (wB cI cZ a) A s.heap H locs M) (hl : lv_has ls 5 [(0, .ref (a 5)), (1, .int x1), (2, .int x2), (3, .int x3), (4, .int x4)]) : Wi p l e { frames := 0, cells := 0, slots := 0, locals := 0 } s m args below meth c D (wB cI cZ a) A r M' H locs (F0 m 5 ls []) := by
  unfold gX4_newestDearest_5 at hf
  obtain ⟨hx, hb, hml, hown, hU, hr, hlk, hK, hA⟩ := id C
  refine lv_iload hx hb dX4_newestDearest_5 (lv_at hl 4 rfl) ?_
  refine lv_aload_n hx hb dX4_newestDearest_7 rfl (lv_at hl 0 rfl) ?_
  refine gf_X4_24 C hst dX4_newestDearest_8 ?_
  refine lv_icmp_ge (tgt := 83) hx hb dX4_newestDearest_11 (by decide) (fun c_11 => ?_) (fun c_11 => ?_)
  · have hf := ifp c_11 hf
    refine lv_iload_n hx hb dX4_newestDearest_83 rfl (lv_at hl 3 rfl) ?_
    obtain ⟨e1, e2⟩ := sinj hf
    subst e1
    subst e2
    exact w_iret C hst dX4_newestDearest_84
  · have hf := ifn c_11 hf
    refine lv_aload_n hx hb dX4_newestDearest_14 rfl (lv_at hl 0 rfl) ?_
    refine gf_X4_9 C hst dX4_newestDearest_15 ?_
    refine lv_iload hx hb dX4_newestDearest_18 (lv_at hl 4 rfl) ?_
    obtain ⟨h_20, hf⟩ := og hf
    refine w_iald (N := 40) (f := M 6) C hst 6 rfl h_20 dX4_newestDearest_20 ?_
    refine lv_iload_n hx hb dX4_newestDearest_21 rfl (lv_at hl 1 rfl) ?_
    refine lv_icmp_ne (tgt := 77) hx hb dX4_newestDearest_22 (by decide) (fun c_22 => ?_) (fun c_22 => ?_)
    · have hf := ifn c_22 hf
      exact kX4_newestDearest_77 C K5 hK5 x1 x2 x3 x4 M _ _ _ hf hst (lv_sub hl [0, 1, 2, 3, 4] rfl)
    · have hf := ifp c_22 hf
      refine lv_aload_n hx hb dX4_newestDearest_25 rfl (lv_at hl 0 rfl) ?_
      refine gf_X4_21 C hst dX4_newestDearest_26 ?_
      refine lv_iload hx hb dX4_newestDearest_29 (lv_at hl 4 rfl) ?_
      refine w_iald (N := 40) (f := M 9) C hst 9 rfl h_20 dX4_newestDearest_31 ?_
      refine lv_iconst (v := -1) hx hb dX4_newestDearest_32 (by decide) ?_
      refine lv_icmp_ne (tgt := 77) hx hb dX4_newestDearest_33 (by decide) (fun c_33 => ?_) (fun c_33 => ?_)
      · have hf := ifn c_33 hf
        exact kX4_newestDearest_77 C K5 hK5 x1 x2 x3 x4 M _ _ _ hf hst (lv_sub hl [0, 1, 2, 3, 4] rfl)
      · have hf := ifp c_33 hf
        refine lv_aload_n hx hb dX4_newestDearest_36 rfl (lv_at hl 0 rfl) ?_
        refine gf_X4_18 C hst dX4_newestDearest_37 ?_
        refine lv_iload hx hb dX4_newestDearest_40 (lv_at hl 4 rfl) ?_
        refine w_iald (N := 40) (f := M 8) C hst 8 rfl h_20 dX4_newestDearest_42 ?_
        refine lv_iload_n hx hb dX4_newestDearest_43 rfl (lv_at hl 2 rfl) ?_
        refine lv_bipush (v := 24) hx hb dX4_newestDearest_44 (by decide) ?_
        refine lv_isub hx hb dX4_newestDearest_46 ?_
        refine lv_icmp_gt (tgt := 53) hx hb dX4_newestDearest_47 (by decide) (fun c_47 => ?_) (fun c_47 => ?_)
        · have hf := ifp c_47 hf
          refine lv_iload_n hx hb dX4_newestDearest_53 rfl (lv_at hl 3 rfl) ?_
          refine lv_iconst (v := -1) hx hb dX4_newestDearest_54 (by decide) ?_
          refine lv_icmp_eq (tgt := 74) hx hb dX4_newestDearest_55 (by decide) (fun c_55 => ?_) (fun c_55 => ?_)
          · have hf := ifp c_55 hf
            exact kX4_newestDearest_74 C K5 hK5 x1 x2 x3 x4 M _ _ _ hf hst (lv_sub hl [0, 1, 2, 3, 4] rfl)
          · have hf := ifn c_55 hf
            refine lv_aload_n hx hb dX4_newestDearest_58 rfl (lv_at hl 0 rfl) ?_
            refine gf_X4_15 C hst dX4_newestDearest_59 ?_
            refine lv_iload hx hb dX4_newestDearest_62 (lv_at hl 4 rfl) ?_
            refine w_iald (N := 40) (f := M 7) C hst 7 rfl h_20 dX4_newestDearest_64 ?_
            refine lv_aload_n hx hb dX4_newestDearest_65 rfl (lv_at hl 0 rfl) ?_
            refine gf_X4_15 C hst dX4_newestDearest_66 ?_
            refine lv_iload_n hx hb dX4_newestDearest_69 rfl (lv_at hl 3 rfl) ?_
            obtain ⟨h_70, hf⟩ := og hf
            refine w_iald (N := 40) (f := M 7) C hst 7 rfl h_70 dX4_newestDearest_70 ?_
            refine lv_icmp_le (tgt := 77) hx hb dX4_newestDearest_71 (by decide) (fun c_71 => ?_) (fun c_71 => ?_)
            · have hf := ifp c_71 hf
              exact kX4_newestDearest_77 C K5 hK5 x1 x2 x3 x4 M _ _ _ hf hst (lv_sub hl [0, 1, 2, 3, 4] rfl)
            · have hf := ifn c_71 hf
              exact kX4_newestDearest_74 C K5 hK5 x1 x2 x3 x4 M _ _ _ hf hst (lv_sub hl [0, 1, 2, 3, 4] rfl)
        · have hf := ifn c_47 hf
          refine lv_goto (tgt := 77) hx hb dX4_newestDearest_50 (by decide) ?_
          exact kX4_newestDearest_77 C K5 hK5 x1 x2 x3 x4 M _ _ _ hf hst (lv_sub hl [0, 1, 2, 3, 4] rfl)
theorem tX4_newestDearest_5 {p : Program} {l : Launch} {e : Env} {s : State} {m : MethodId} {args : Array Value} {below : List Frame} {meth : Method} {c : Code} {D : va_G} {cI cZ : ClassId} {a : Nat → Nat} {A : Nat → Prop} {r : Int32} {M' : Mem} (C : Cx p s m args meth c cX4_newestDearest 5 RX4 (some .int) D cI cZ A)  : ∀ (n : Nat) (x1 x2 x3 x4 : Int32) (M : Mem) (H : Heap) (locs : List Loc) (ls : Array Slot), lX4_newestDearest_5 n x1 x2 x3 x4 M = some (r, M') → St D (wB cI cZ a) A s.heap H locs M → lv_has ls 5 [(0, .ref (a 5)), (1, .int x1), (2, .int x2), (3, .int x3), (4, .int x4)] → Wi p l e { frames := 0, cells := 0, slots := 0, locals := 0 } s m args below meth c D (wB cI cZ a) A r M' H locs (F0 m 5 ls []) := by
  intro n
  induction n with
  | zero =>
    intro x1 x2 x3 x4 M H locs ls hf
    exact nomatch (show (none : Res) = some (r, M') from hf)
  | succ n ih =>
    intro x1 x2 x3 x4 M H locs ls hf hst hl
    exact kX4_newestDearest_5 C (lX4_newestDearest_5 n) ih x1 x2 x3 x4 M H locs ls hf hst hl

set_option maxHeartbeats 4000000 in
set_option maxRecDepth 100000 in
theorem kX4_newestDearest_0 {p : Program} {l : Launch} {e : Env} {s : State} {m : MethodId} {args : Array Value} {below : List Frame} {meth : Method} {c : Code} {D : va_G} {cI cZ : ClassId} {a : Nat → Nat} {A : Nat → Prop} {r : Int32} {M' : Mem} (C : Cx p s m args meth c cX4_newestDearest 5 RX4 (some .int) D cI cZ A)  (x1 x2 : Int32) (M : Mem) (H : Heap) (locs : List Loc) (ls : Array Slot) (hf : fX4_newestDearest x1 x2 M = some (r, M')) (hst : St D (wB cI cZ a) A s.heap H locs M) (hl : lv_has ls 5 [(0, .ref (a 5)), (1, .int x1), (2, .int x2)]) : Wi p l e { frames := 0, cells := 0, slots := 0, locals := 0 } s m args below meth c D (wB cI cZ a) A r M' H locs (F0 m 0 ls []) := by
  unfold fX4_newestDearest at hf
  obtain ⟨hx, hb, hml, hown, hU, hr, hlk, hK, hA⟩ := id C
  refine lv_iconst (v := -1) hx hb dX4_newestDearest_0 (by decide) ?_
  refine lv_istore_n (lv' := [(3, .int (-1 : Int32)), (0, .ref (a 5)), (1, .int x1), (2, .int x2)]) hx hb dX4_newestDearest_1 rfl hl (by decide) rfl (fun ls hl => ?_)
  refine lv_iconst (v := 0) hx hb dX4_newestDearest_2 (by decide) ?_
  refine lv_istore (lv' := [(4, .int (0 : Int32)), (3, .int (-1 : Int32)), (0, .ref (a 5)), (1, .int x1), (2, .int x2)]) hx hb dX4_newestDearest_3 hl (by decide) rfl (fun ls hl => ?_)
  exact tX4_newestDearest_5 C  fu x1 x2 (-1 : Int32) (0 : Int32) M _ _ _ hf hst (lv_sub hl [2, 3, 4, 1, 0] rfl)
set_option maxRecDepth 100000 in
theorem mX4_newestDearest (l : Launch) (D : va_G) (cI cZ : ClassId) (a : Nat → Nat) (x1 x2 : Int32) (M : Mem) (r : Int32) (M' : Mem) (hf : fX4_newestDearest x1 x2 M = some (r, M')) : MI l D cI cZ (wB cI cZ a) yX4_newestDearest cX4_newestDearest 5 (some .int) 0 0 [.ref (a 5), .int x1, .int x2] M r M' :=
  MI.of (by decide) (Nat.le_of_ble_eq_true rfl) (fun p e s m args below meth c A C hst ls hl => kX4_newestDearest_0 C x1 x2 M s.heap [] ls hf hst hl)


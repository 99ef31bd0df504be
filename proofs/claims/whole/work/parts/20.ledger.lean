def fX3_now (M : Mem) : Res :=
  some ((M 1 3), M)
theorem calX3_now : Cal yX3_now cX3_now 1 (some .int) 0 := ⟨(mU1 237 rfl rfl), (mU1 2 rfl rfl), by decide +kernel⟩
theorem cavX3_now : CalV yX3_now := ⟨(mU1 235 rfl rfl), (mU1 236 rfl rfl)⟩
set_option maxHeartbeats 4000000 in
set_option maxRecDepth 100000 in
theorem kX3_now_0 {p : Program} {l : Launch} {e : Env} {s : State} {m : MethodId} {args : Array Value} {below : List Frame} {meth : Method} {c : Code} {D : va_G} {cI cZ : ClassId} {a : Nat → Nat} {A : Nat → Prop} {r : Int32} {M' : Mem} (C : Cx p s m args meth c cX3_now 1 RX3 (some .int) D cI cZ A)  (M : Mem) (H : Heap) (locs : List Loc) (ls : Array Slot) (hf : fX3_now M = some (r, M')) (hst : St D (wB cI cZ a) A s.heap H locs M) (hl : lv_has ls 1 [(0, .ref (a 1))]) : Wi p l e { frames := 0, cells := 0, slots := 0, locals := 0 } s m args below meth c D (wB cI cZ a) A r M' H locs (F0 m 0 ls []) := by
  unfold fX3_now at hf
  obtain ⟨hx, hb, hml, hown, hU, hr, hlk, hK, hA⟩ := id C
  refine lv_aload_n hx hb dX3_now_0 rfl (lv_at hl 0 rfl) ?_
  refine gf_X3_21 C hst dX3_now_1 ?_
  obtain ⟨e1, e2⟩ := sinj hf
  subst e1
  subst e2
  exact w_iret C hst dX3_now_4
set_option maxRecDepth 100000 in
theorem mX3_now (l : Launch) (D : va_G) (cI cZ : ClassId) (a : Nat → Nat) (M : Mem) (r : Int32) (M' : Mem) (hf : fX3_now  M = some (r, M')) : MI l D cI cZ (wB cI cZ a) yX3_now cX3_now 1 (some .int) 0 0 [.ref (a 1)] M r M' :=
  MI.of (by decide) (Nat.le_of_ble_eq_true rfl) (fun p e s m args below meth c A C hst ls hl => kX3_now_0 C  M s.heap [] ls hf hst hl)

def fX3_usedNow (x1 : Int32) (M : Mem) : Res :=
  if x1 < 0 ∨ 6 ≤ Int32.toNatClampNeg x1 then none else some ((M 4 (Int32.toNatClampNeg x1)), M)
theorem calX3_usedNow : Cal yX3_usedNow cX3_usedNow 2 (some .int) 1 := ⟨(mU2 33 rfl rfl), (mU1 2 rfl rfl), by decide +kernel⟩
theorem cavX3_usedNow : CalV yX3_usedNow := ⟨(mU2 31 rfl rfl), (mU2 32 rfl rfl)⟩
set_option maxHeartbeats 4000000 in
set_option maxRecDepth 100000 in
theorem kX3_usedNow_0 {p : Program} {l : Launch} {e : Env} {s : State} {m : MethodId} {args : Array Value} {below : List Frame} {meth : Method} {c : Code} {D : va_G} {cI cZ : ClassId} {a : Nat → Nat} {A : Nat → Prop} {r : Int32} {M' : Mem} (C : Cx p s m args meth c cX3_usedNow 2 RX3 (some .int) D cI cZ A)  (x1 : Int32) (M : Mem) (H : Heap) (locs : List Loc) (ls : Array Slot) (hf : fX3_usedNow x1 M = some (r, M')) (hst : St D (wB cI cZ a) A s.heap H locs M) (hl : lv_has ls 2 [(0, .ref (a 1)), (1, .int x1)]) : Wi p l e { frames := 0, cells := 0, slots := 0, locals := 0 } s m args below meth c D (wB cI cZ a) A r M' H locs (F0 m 0 ls []) := by
  unfold fX3_usedNow at hf
  obtain ⟨hx, hb, hml, hown, hU, hr, hlk, hK, hA⟩ := id C
  refine lv_aload_n hx hb dX3_usedNow_0 rfl (lv_at hl 0 rfl) ?_
  refine gf_X3_18 C hst dX3_usedNow_1 ?_
  refine lv_iload_n hx hb dX3_usedNow_4 rfl (lv_at hl 1 rfl) ?_
  obtain ⟨h_5, hf⟩ := og hf
  refine w_iald (N := 6) (f := M 4) C hst 4 rfl h_5 dX3_usedNow_5 ?_
  obtain ⟨e1, e2⟩ := sinj hf
  subst e1
  subst e2
  exact w_iret C hst dX3_usedNow_6
set_option maxRecDepth 100000 in
theorem mX3_usedNow (l : Launch) (D : va_G) (cI cZ : ClassId) (a : Nat → Nat) (x1 : Int32) (M : Mem) (r : Int32) (M' : Mem) (hf : fX3_usedNow x1 M = some (r, M')) : MI l D cI cZ (wB cI cZ a) yX3_usedNow cX3_usedNow 2 (some .int) 0 0 [.ref (a 1), .int x1] M r M' :=
  MI.of (by decide) (Nat.le_of_ble_eq_true rfl) (fun p e s m args below meth c A C hst ls hl => kX3_usedNow_0 C x1 M s.heap [] ls hf hst hl)

def fX3_addUsed (x1 x2 : Int32) (M : Mem) : Res :=
  if x1 < 0 ∨ 6 ≤ Int32.toNatClampNeg x1 then none else some (0, (upM M 4 (Int32.toNatClampNeg x1) ((M 4 (Int32.toNatClampNeg x1)) + x2)))
theorem calX3_addUsed : Cal yX3_addUsed cX3_addUsed 3 none 2 := ⟨(mU2 38 rfl rfl), (mU1 2 rfl rfl), by decide +kernel⟩
theorem cavX3_addUsed : CalV yX3_addUsed := ⟨(mU2 36 rfl rfl), (mU2 37 rfl rfl)⟩
set_option maxHeartbeats 4000000 in
set_option maxRecDepth 100000 in
theorem kX3_addUsed_0 {p : Program} {l : Launch} {e : Env} {s : State} {m : MethodId} {args : Array Value} {below : List Frame} {meth : Method} {c : Code} {D : va_G} {cI cZ : ClassId} {a : Nat → Nat} {A : Nat → Prop} {r : Int32} {M' : Mem} (C : Cx p s m args meth c cX3_addUsed 3 RX3 none D cI cZ A)  (x1 x2 : Int32) (M : Mem) (H : Heap) (locs : List Loc) (ls : Array Slot) (hf : fX3_addUsed x1 x2 M = some (r, M')) (hst : St D (wB cI cZ a) A s.heap H locs M) (hl : lv_has ls 3 [(0, .ref (a 1)), (1, .int x1), (2, .int x2)]) : Wv p l e { frames := 0, cells := 0, slots := 0, locals := 0 } s m args below meth c D (wB cI cZ a) A M' H locs (F0 m 0 ls []) := by
  unfold fX3_addUsed at hf
  obtain ⟨hx, hb, hml, hown, hU, hr, hlk, hK, hA⟩ := id C
  refine lv_aload_n hx hb dX3_addUsed_0 rfl (lv_at hl 0 rfl) ?_
  refine gf_X3_18 C hst dX3_addUsed_1 ?_
  refine lv_iload_n hx hb dX3_addUsed_4 rfl (lv_at hl 1 rfl) ?_
  refine lv_dup2_11 hx hb dX3_addUsed_5 rfl rfl ?_
  obtain ⟨h_6, hf⟩ := og hf
  refine w_iald (N := 6) (f := M 4) C hst 4 rfl h_6 dX3_addUsed_6 ?_
  refine lv_iload_n hx hb dX3_addUsed_7 rfl (lv_at hl 2 rfl) ?_
  refine lv_iadd hx hb dX3_addUsed_8 ?_
  refine w_iast (N := 6) (f := M 4) (M' := (upM M 4 (Int32.toNatClampNeg x1) ((M 4 (Int32.toNatClampNeg x1)) + x2))) C hst 4 rfl (wB_set4 cI cZ a M (Int32.toNatClampNeg x1) ((M 4 (Int32.toNatClampNeg x1)) + x2)) h_6 dX3_addUsed_9 (fun H locs hst => ?_)
  obtain ⟨e1, e2⟩ := sinj hf
  subst e1
  subst e2
  exact w_vret C hst dX3_addUsed_10
set_option maxRecDepth 100000 in
theorem mX3_addUsed (l : Launch) (D : va_G) (cI cZ : ClassId) (a : Nat → Nat) (x1 x2 : Int32) (M : Mem) (r : Int32) (M' : Mem) (hf : fX3_addUsed x1 x2 M = some (r, M')) : MV l D cI cZ (wB cI cZ a) yX3_addUsed cX3_addUsed 3 0 0 [.ref (a 1), .int x1, .int x2] M M' :=
  MV.of (by decide) (Nat.le_of_ble_eq_true rfl) (fun p e s m args below meth c A C hst ls hl => kX3_addUsed_0 C x1 x2 M s.heap [] ls hf hst hl)

def fX3_addPrice (x1 x2 : Int32) (M : Mem) : Res :=
  if x1 < 0 ∨ 6 ≤ Int32.toNatClampNeg x1 then none else some (0, (upM M 3 (Int32.toNatClampNeg x1) ((M 3 (Int32.toNatClampNeg x1)) + x2)))
theorem calX3_addPrice : Cal yX3_addPrice cX3_addPrice 3 none 2 := ⟨(mU1 233 rfl rfl), (mU1 2 rfl rfl), by decide +kernel⟩
theorem cavX3_addPrice : CalV yX3_addPrice := ⟨(mU1 231 rfl rfl), (mU1 232 rfl rfl)⟩
set_option maxHeartbeats 4000000 in
set_option maxRecDepth 100000 in
theorem kX3_addPrice_0 {p : Program} {l : Launch} {e : Env} {s : State} {m : MethodId} {args : Array Value} {below : List Frame} {meth : Method} {c : Code} {D : va_G} {cI cZ : ClassId} {a : Nat → Nat} {A : Nat → Prop} {r : Int32} {M' : Mem} (C : Cx p s m args meth c cX3_addPrice 3 RX3 none D cI cZ A)  (x1 x2 : Int32) (M : Mem) (H : Heap) (locs : List Loc) (ls : Array Slot) (hf : fX3_addPrice x1 x2 M = some (r, M')) (hst : St D (wB cI cZ a) A s.heap H locs M) (hl : lv_has ls 3 [(0, .ref (a 1)), (1, .int x1), (2, .int x2)]) : Wv p l e { frames := 0, cells := 0, slots := 0, locals := 0 } s m args below meth c D (wB cI cZ a) A M' H locs (F0 m 0 ls []) := by
  unfold fX3_addPrice at hf
  obtain ⟨hx, hb, hml, hown, hU, hr, hlk, hK, hA⟩ := id C
  refine lv_aload_n hx hb dX3_addPrice_0 rfl (lv_at hl 0 rfl) ?_
  refine gf_X3_15 C hst dX3_addPrice_1 ?_
  refine lv_iload_n hx hb dX3_addPrice_4 rfl (lv_at hl 1 rfl) ?_
  refine lv_dup2_11 hx hb dX3_addPrice_5 rfl rfl ?_
  obtain ⟨h_6, hf⟩ := og hf
  refine w_iald (N := 6) (f := M 3) C hst 3 rfl h_6 dX3_addPrice_6 ?_
  refine lv_iload_n hx hb dX3_addPrice_7 rfl (lv_at hl 2 rfl) ?_
  refine lv_iadd hx hb dX3_addPrice_8 ?_
  refine w_iast (N := 6) (f := M 3) (M' := (upM M 3 (Int32.toNatClampNeg x1) ((M 3 (Int32.toNatClampNeg x1)) + x2))) C hst 3 rfl (wB_set3 cI cZ a M (Int32.toNatClampNeg x1) ((M 3 (Int32.toNatClampNeg x1)) + x2)) h_6 dX3_addPrice_9 (fun H locs hst => ?_)
  obtain ⟨e1, e2⟩ := sinj hf
  subst e1
  subst e2
  exact w_vret C hst dX3_addPrice_10
set_option maxRecDepth 100000 in
theorem mX3_addPrice (l : Launch) (D : va_G) (cI cZ : ClassId) (a : Nat → Nat) (x1 x2 : Int32) (M : Mem) (r : Int32) (M' : Mem) (hf : fX3_addPrice x1 x2 M = some (r, M')) : MV l D cI cZ (wB cI cZ a) yX3_addPrice cX3_addPrice 3 0 0 [.ref (a 1), .int x1, .int x2] M M' :=
  MV.of (by decide) (Nat.le_of_ble_eq_true rfl) (fun p e s m args below meth c A C hst ls hl => kX3_addPrice_0 C x1 x2 M s.heap [] ls hf hst hl)

def fX3_costOf (x1 x2 : Int32) (M : Mem) : Res :=
  (if x2 = (M 1 3) then if x1 < 0 ∨ 6 ≤ Int32.toNatClampNeg x1 then none else some (((M 3 (Int32.toNatClampNeg x1)) + (M 4 (Int32.toNatClampNeg x1))), M) else if ((x1 * (2000 : Int32)) + x2) < 0 ∨ 12000 ≤ Int32.toNatClampNeg ((x1 * (2000 : Int32)) + x2) then none else some ((M 2 (Int32.toNatClampNeg ((x1 * (2000 : Int32)) + x2))), M))
theorem calX3_costOf : Cal yX3_costOf cX3_costOf 3 (some .int) 2 := ⟨(mU2 66 rfl rfl), (mU1 2 rfl rfl), by decide +kernel⟩
theorem cavX3_costOf : CalV yX3_costOf := ⟨(mU2 64 rfl rfl), (mU2 65 rfl rfl)⟩
set_option maxHeartbeats 4000000 in
set_option maxRecDepth 100000 in
theorem kX3_costOf_0 {p : Program} {l : Launch} {e : Env} {s : State} {m : MethodId} {args : Array Value} {below : List Frame} {meth : Method} {c : Code} {D : va_G} {cI cZ : ClassId} {a : Nat → Nat} {A : Nat → Prop} {r : Int32} {M' : Mem} (C : Cx p s m args meth c cX3_costOf 3 RX3 (some .int) D cI cZ A)  (x1 x2 : Int32) (M : Mem) (H : Heap) (locs : List Loc) (ls : Array Slot) (hf : fX3_costOf x1 x2 M = some (r, M')) (hst : St D (wB cI cZ a) A s.heap H locs M) (hl : lv_has ls 3 [(0, .ref (a 1)), (1, .int x1), (2, .int x2)]) : Wi p l e { frames := 0, cells := 0, slots := 0, locals := 0 } s m args below meth c D (wB cI cZ a) A r M' H locs (F0 m 0 ls []) := by
  unfold fX3_costOf at hf
  obtain ⟨hx, hb, hml, hown, hU, hr, hlk, hK, hA⟩ := id C
  refine lv_iload_n hx hb dX3_costOf_0 rfl (lv_at hl 2 rfl) ?_
  refine lv_aload_n hx hb dX3_costOf_1 rfl (lv_at hl 0 rfl) ?_
  refine gf_X3_21 C hst dX3_costOf_2 ?_
  refine lv_icmp_ne (tgt := 24) hx hb dX3_costOf_5 (by decide) (fun c_5 => ?_) (fun c_5 => ?_)
  · have hf := ifn c_5 hf
    refine lv_aload_n hx hb dX3_costOf_24 rfl (lv_at hl 0 rfl) ?_
    refine gf_X3_9 C hst dX3_costOf_25 ?_
    refine lv_iload_n hx hb dX3_costOf_28 rfl (lv_at hl 1 rfl) ?_
    refine lv_sipush (v := 2000) hx hb dX3_costOf_29 (by decide) ?_
    refine lv_imul hx hb dX3_costOf_32 ?_
    refine lv_iload_n hx hb dX3_costOf_33 rfl (lv_at hl 2 rfl) ?_
    refine lv_iadd hx hb dX3_costOf_34 ?_
    obtain ⟨h_35, hf⟩ := og hf
    refine w_iald (N := 12000) (f := M 2) C hst 2 rfl h_35 dX3_costOf_35 ?_
    obtain ⟨e1, e2⟩ := sinj hf
    subst e1
    subst e2
    exact w_iret C hst dX3_costOf_36
  · have hf := ifp c_5 hf
    refine lv_aload_n hx hb dX3_costOf_8 rfl (lv_at hl 0 rfl) ?_
    refine gf_X3_15 C hst dX3_costOf_9 ?_
    refine lv_iload_n hx hb dX3_costOf_12 rfl (lv_at hl 1 rfl) ?_
    obtain ⟨h_13, hf⟩ := og hf
    refine w_iald (N := 6) (f := M 3) C hst 3 rfl h_13 dX3_costOf_13 ?_
    refine lv_aload_n hx hb dX3_costOf_14 rfl (lv_at hl 0 rfl) ?_
    refine gf_X3_18 C hst dX3_costOf_15 ?_
    refine lv_iload_n hx hb dX3_costOf_18 rfl (lv_at hl 1 rfl) ?_
    refine w_iald (N := 6) (f := M 4) C hst 4 rfl h_13 dX3_costOf_19 ?_
    refine lv_iadd hx hb dX3_costOf_20 ?_
    refine lv_goto (tgt := 36) hx hb dX3_costOf_21 (by decide) ?_
    obtain ⟨e1, e2⟩ := sinj hf
    subst e1
    subst e2
    exact w_iret C hst dX3_costOf_36
set_option maxRecDepth 100000 in
theorem mX3_costOf (l : Launch) (D : va_G) (cI cZ : ClassId) (a : Nat → Nat) (x1 x2 : Int32) (M : Mem) (r : Int32) (M' : Mem) (hf : fX3_costOf x1 x2 M = some (r, M')) : MI l D cI cZ (wB cI cZ a) yX3_costOf cX3_costOf 3 (some .int) 0 0 [.ref (a 1), .int x1, .int x2] M r M' :=
  MI.of (by decide) (Nat.le_of_ble_eq_true rfl) (fun p e s m args below meth c A C hst ls hl => kX3_costOf_0 C x1 x2 M s.heap [] ls hf hst hl)

def gX3_costOfDay_5 (K5 : Int32 → Int32 → Int32 → Int32 → Mem → Res) (x1 x2 x3 x4 : Int32) (M : Mem) : Res :=
  (if (24 : Int32) ≤ x4 then some (x3, M) else obi (fX3_costOf x1 ((x2 * (24 : Int32)) + x4) M) (fun r_22 M_22 => K5 x1 x2 (x3 + r_22) (x4 + 1) M_22))
def lX3_costOfDay_5 : Nat → Int32 → Int32 → Int32 → Int32 → Mem → Res
  | 0, _, _, _, _, _ => none
  | n + 1, x1, x2, x3, x4, M => gX3_costOfDay_5 (lX3_costOfDay_5 n) x1 x2 x3 x4 M
def fX3_costOfDay (x1 x2 : Int32) (M : Mem) : Res :=
  lX3_costOfDay_5  fu x1 x2 (0 : Int32) (0 : Int32) M
theorem calX3_costOfDay : Cal yX3_costOfDay cX3_costOfDay 5 (some .int) 2 := ⟨(mU2 167 rfl rfl), (mU1 2 rfl rfl), by decide +kernel⟩
theorem cavX3_costOfDay : CalV yX3_costOfDay := ⟨(mU2 165 rfl rfl), (mU2 166 rfl rfl)⟩
set_option maxHeartbeats 4000000 in
set_option maxRecDepth 100000 in
theorem kX3_costOfDay_5 {p : Program} {l : Launch} {e : Env} {s : State} {m : MethodId} {args : Array Value} {below : List Frame} {meth : Method} {c : Code} {D : va_G} {cI cZ : ClassId} {a : Nat → Nat} {A : Nat → Prop} {r : Int32} {M' : Mem} (C : Cx p s m args meth c cX3_costOfDay 5 RX3 (some .int) D cI cZ A) (K5 : Int32 → Int32 → Int32 → Int32 → Mem → Res) (hK5 : ∀ (x1 x2 x3 x4 : Int32) (M : Mem) (H : Heap) (locs : List Loc) (ls : Array Slot), K5 x1 x2 x3 x4 M = some (r, M') → St D (wB cI cZ a) A s.heap H locs M → lv_has ls 5 [(0, .ref (a 1)), (1, .int x1), (2, .int x2), (3, .int x3), (4, .int x4)] → Wi p l e { frames := 1, cells := 0, slots := 0, locals := 22 } s m args below meth c D (wB cI cZ a) A r M' H locs (F0 m 5 ls [])) (x1 x2 x3 x4 : Int32) (M : Mem) (H : Heap) (locs : List Loc) (ls : Array Slot) (hf : gX3_costOfDay_5 K5 x1 x2 x3 x4 M = some (r, M')) (hst : St D (wB cI cZ a) A s.heap H locs M) (hl : lv_has ls 5 [(0, .ref (a 1)), (1, .int x1), (2, .int x2), (3, .int x3), (4, .int x4)]) : Wi p l e { frames := 1, cells := 0, slots := 0, locals := 22 } s m args below meth c D (wB cI cZ a) A r M' H locs (F0 m 5 ls []) := by
  unfold gX3_costOfDay_5 at hf
  obtain ⟨hx, hb, hml, hown, hU, hr, hlk, hK, hA⟩ := id C
  refine lv_iload hx hb dX3_costOfDay_5 (lv_at hl 4 rfl) ?_
  refine lv_bipush (v := 24) hx hb dX3_costOfDay_7 (by decide) ?_
  refine lv_icmp_ge (tgt := 33) hx hb dX3_costOfDay_9 (by decide) (fun c_9 => ?_) (fun c_9 => ?_)
  · have hf := ifp c_9 hf
    refine lv_iload_n hx hb dX3_costOfDay_33 rfl (lv_at hl 3 rfl) ?_
    obtain ⟨e1, e2⟩ := sinj hf
    subst e1
    subst e2
    exact w_iret C hst dX3_costOfDay_34
  · have hf := ifn c_9 hf
    refine lv_iload_n hx hb dX3_costOfDay_12 rfl (lv_at hl 3 rfl) ?_
    refine lv_aload_n hx hb dX3_costOfDay_13 rfl (lv_at hl 0 rfl) ?_
    refine lv_iload_n hx hb dX3_costOfDay_14 rfl (lv_at hl 1 rfl) ?_
    refine lv_iload_n hx hb dX3_costOfDay_15 rfl (lv_at hl 2 rfl) ?_
    refine lv_bipush (v := 24) hx hb dX3_costOfDay_16 (by decide) ?_
    refine lv_imul hx hb dX3_costOfDay_18 ?_
    refine lv_iload hx hb dX3_costOfDay_19 (lv_at hl 4 rfl) ?_
    refine lv_iadd hx hb dX3_costOfDay_21 ?_
    obtain ⟨r_22, M_22, hc_22, hf⟩ := obi_some hf
    refine w_cVi (As := [.int x1, .int ((x2 * (24 : Int32)) + x4)]) (rest := [.int x3]) C (wB_ad cI cZ a) (mX3_costOf l D cI cZ a x1 ((x2 * (24 : Int32)) + x4) M r_22 M_22 hc_22) calX3_costOf cavX3_costOf (mU2 168 rfl rfl) hst hl.1 1 3 rfl rfl rfl rfl (Nat.le_of_ble_eq_true rfl) ⟨Nat.le_of_ble_eq_true rfl, Nat.le_of_ble_eq_true rfl⟩ dX3_costOfDay_22 (fun H locs hst => ?_)
    refine lv_iadd hx hb dX3_costOfDay_25 ?_
    refine lv_istore_n (lv' := [(3, .int (x3 + r_22)), (0, .ref (a 1)), (1, .int x1), (2, .int x2), (4, .int x4)]) hx hb dX3_costOfDay_26 rfl hl (by decide) rfl (fun ls hl => ?_)
    refine lv_iinc (v := (x4 + 1)) (lv' := [(4, .int (x4 + 1)), (3, .int (x3 + r_22)), (0, .ref (a 1)), (1, .int x1), (2, .int x2)]) hx hb dX3_costOfDay_27 hl (k := 4) rfl rfl (by decide) rfl (fun ls hl => ?_)
    refine lv_goto (tgt := 5) hx hb dX3_costOfDay_30 (by decide) ?_
    exact hK5 x1 x2 (x3 + r_22) (x4 + 1) M_22 _ _ _ hf hst (lv_sub hl [2, 3, 4, 1, 0] rfl)
theorem tX3_costOfDay_5 {p : Program} {l : Launch} {e : Env} {s : State} {m : MethodId} {args : Array Value} {below : List Frame} {meth : Method} {c : Code} {D : va_G} {cI cZ : ClassId} {a : Nat → Nat} {A : Nat → Prop} {r : Int32} {M' : Mem} (C : Cx p s m args meth c cX3_costOfDay 5 RX3 (some .int) D cI cZ A)  : ∀ (n : Nat) (x1 x2 x3 x4 : Int32) (M : Mem) (H : Heap) (locs : List Loc) (ls : Array Slot), lX3_costOfDay_5 n x1 x2 x3 x4 M = some (r, M') → St D (wB cI cZ a) A s.heap H locs M → lv_has ls 5 [(0, .ref (a 1)), (1, .int x1), (2, .int x2), (3, .int x3), (4, .int x4)] → Wi p l e { frames := 1, cells := 0, slots := 0, locals := 22 } s m args below meth c D (wB cI cZ a) A r M' H locs (F0 m 5 ls []) := by
  intro n
  induction n with
  | zero =>
    intro x1 x2 x3 x4 M H locs ls hf
    exact nomatch (show (none : Res) = some (r, M') from hf)
  | succ n ih =>
    intro x1 x2 x3 x4 M H locs ls hf hst hl
    exact kX3_costOfDay_5 C (lX3_costOfDay_5 n) ih x1 x2 x3 x4 M H locs ls hf hst hl

set_option maxHeartbeats 4000000 in
set_option maxRecDepth 100000 in
theorem kX3_costOfDay_0 {p : Program} {l : Launch} {e : Env} {s : State} {m : MethodId} {args : Array Value} {below : List Frame} {meth : Method} {c : Code} {D : va_G} {cI cZ : ClassId} {a : Nat → Nat} {A : Nat → Prop} {r : Int32} {M' : Mem} (C : Cx p s m args meth c cX3_costOfDay 5 RX3 (some .int) D cI cZ A)  (x1 x2 : Int32) (M : Mem) (H : Heap) (locs : List Loc) (ls : Array Slot) (hf : fX3_costOfDay x1 x2 M = some (r, M')) (hst : St D (wB cI cZ a) A s.heap H locs M) (hl : lv_has ls 5 [(0, .ref (a 1)), (1, .int x1), (2, .int x2)]) : Wi p l e { frames := 1, cells := 0, slots := 0, locals := 22 } s m args below meth c D (wB cI cZ a) A r M' H locs (F0 m 0 ls []) := by
  unfold fX3_costOfDay at hf
  obtain ⟨hx, hb, hml, hown, hU, hr, hlk, hK, hA⟩ := id C
  refine lv_iconst (v := 0) hx hb dX3_costOfDay_0 (by decide) ?_
  refine lv_istore_n (lv' := [(3, .int (0 : Int32)), (0, .ref (a 1)), (1, .int x1), (2, .int x2)]) hx hb dX3_costOfDay_1 rfl hl (by decide) rfl (fun ls hl => ?_)
  refine lv_iconst (v := 0) hx hb dX3_costOfDay_2 (by decide) ?_
  refine lv_istore (lv' := [(4, .int (0 : Int32)), (3, .int (0 : Int32)), (0, .ref (a 1)), (1, .int x1), (2, .int x2)]) hx hb dX3_costOfDay_3 hl (by decide) rfl (fun ls hl => ?_)
  exact tX3_costOfDay_5 C  fu x1 x2 (0 : Int32) (0 : Int32) M _ _ _ hf hst (lv_sub hl [2, 3, 4, 1, 0] rfl)
set_option maxRecDepth 100000 in
theorem mX3_costOfDay (l : Launch) (D : va_G) (cI cZ : ClassId) (a : Nat → Nat) (x1 x2 : Int32) (M : Mem) (r : Int32) (M' : Mem) (hf : fX3_costOfDay x1 x2 M = some (r, M')) : MI l D cI cZ (wB cI cZ a) yX3_costOfDay cX3_costOfDay 5 (some .int) 1 22 [.ref (a 1), .int x1, .int x2] M r M' :=
  MI.of (by decide) (Nat.le_of_ble_eq_true rfl) (fun p e s m args below meth c A C hst ls hl => kX3_costOfDay_0 C x1 x2 M s.heap [] ls hf hst hl)

def fX3_firstOfLastDay (M : Mem) : Res :=
  some ((if (0 : Int32) < (((M 1 3) - (24 : Int32)) + (1 : Int32)) then (((M 1 3) - (24 : Int32)) + (1 : Int32)) else (0 : Int32)), M)
theorem calX3_firstOfLastDay : Cal yX3_firstOfLastDay cX3_firstOfLastDay 1 (some .int) 0 := ⟨(mU3 22 rfl rfl), (mU1 2 rfl rfl), by decide +kernel⟩
theorem cavX3_firstOfLastDay : CalV yX3_firstOfLastDay := ⟨(mU3 21 rfl rfl), (mS1 10 rfl)⟩
set_option maxHeartbeats 4000000 in
set_option maxRecDepth 100000 in
theorem kX3_firstOfLastDay_0 {p : Program} {l : Launch} {e : Env} {s : State} {m : MethodId} {args : Array Value} {below : List Frame} {meth : Method} {c : Code} {D : va_G} {cI cZ : ClassId} {a : Nat → Nat} {A : Nat → Prop} {r : Int32} {M' : Mem} (C : Cx p s m args meth c cX3_firstOfLastDay 1 RX3 (some .int) D cI cZ A)  (M : Mem) (H : Heap) (locs : List Loc) (ls : Array Slot) (hf : fX3_firstOfLastDay M = some (r, M')) (hst : St D (wB cI cZ a) A s.heap H locs M) (hl : lv_has ls 1 [(0, .ref (a 1))]) : Wi p l e { frames := 1, cells := 0, slots := 0, locals := 21 } s m args below meth c D (wB cI cZ a) A r M' H locs (F0 m 0 ls []) := by
  unfold fX3_firstOfLastDay at hf
  obtain ⟨hx, hb, hml, hown, hU, hr, hlk, hK, hA⟩ := id C
  refine lv_iconst (v := 0) hx hb dX3_firstOfLastDay_0 (by decide) ?_
  refine lv_aload_n hx hb dX3_firstOfLastDay_1 rfl (lv_at hl 0 rfl) ?_
  refine gf_X3_21 C hst dX3_firstOfLastDay_2 ?_
  refine lv_bipush (v := 24) hx hb dX3_firstOfLastDay_5 (by decide) ?_
  refine lv_isub hx hb dX3_firstOfLastDay_7 ?_
  refine lv_iconst (v := 1) hx hb dX3_firstOfLastDay_8 (by decide) ?_
  refine lv_iadd hx hb dX3_firstOfLastDay_9 ?_
  refine va_mmax hx hb (hml.trans hl.1.symm) hown (hU (.methodLink RX3 38 Lib.Math.max.name) (mU3 23 rfl rfl)) (hU (.static Lib.Math.max.name) (mU3 24 rfl rfl)) (hU (.initialized "java/lang/Math") (mU1 11 rfl rfl)) (hU (.code Lib.Math.max.name Lib.Math.max.code 2 (some .int)) (mU3 25 rfl rfl)) (Nat.le_of_ble_eq_true rfl) (Nat.le_of_ble_eq_true rfl) (Nat.zero_le _) (Nat.zero_le _) dX3_firstOfLastDay_10 ?_
  obtain ⟨e1, e2⟩ := sinj hf
  subst e1
  subst e2
  exact w_iret C hst dX3_firstOfLastDay_13
set_option maxRecDepth 100000 in
theorem mX3_firstOfLastDay (l : Launch) (D : va_G) (cI cZ : ClassId) (a : Nat → Nat) (M : Mem) (r : Int32) (M' : Mem) (hf : fX3_firstOfLastDay  M = some (r, M')) : MI l D cI cZ (wB cI cZ a) yX3_firstOfLastDay cX3_firstOfLastDay 1 (some .int) 1 21 [.ref (a 1)] M r M' :=
  MI.of (by decide) (Nat.le_of_ble_eq_true rfl) (fun p e s m args below meth c A C hst ls hl => kX3_firstOfLastDay_0 C  M s.heap [] ls hf hst hl)

def gX3_leastOfLastDay_15 (K15 : Int32 → Int32 → Int32 → Mem → Res) (x1 x2 x3 : Int32) (M : Mem) : Res :=
  (if (M 1 3) ≤ x3 then some (x2, M) else obi (fX3_costOf x1 x3 M) (fun r_27 M_27 => K15 x1 (if r_27 < x2 then r_27 else x2) (x3 + 1) M_27))
def lX3_leastOfLastDay_15 : Nat → Int32 → Int32 → Int32 → Mem → Res
  | 0, _, _, _, _ => none
  | n + 1, x1, x2, x3, M => gX3_leastOfLastDay_15 (lX3_leastOfLastDay_15 n) x1 x2 x3 M
def fX3_leastOfLastDay (x1 : Int32) (M : Mem) : Res :=
  obi (fX3_costOf x1 (M 1 3) M) (fun r_6 M_6 => obi (fX3_firstOfLastDay  M_6) (fun r_11 M_11 => lX3_leastOfLastDay_15  fu x1 r_6 r_11 M_11))
theorem calX3_leastOfLastDay : Cal yX3_leastOfLastDay cX3_leastOfLastDay 4 (some .int) 1 := ⟨(mU3 18 rfl rfl), (mU1 2 rfl rfl), by decide +kernel⟩
theorem cavX3_leastOfLastDay : CalV yX3_leastOfLastDay := ⟨(mU3 16 rfl rfl), (mU3 17 rfl rfl)⟩
set_option maxHeartbeats 4000000 in
set_option maxRecDepth 100000 in
theorem kX3_leastOfLastDay_15 {p : Program} {l : Launch} {e : Env} {s : State} {m : MethodId} {args : Array Value} {below : List Frame} {meth : Method} {c : Code} {D : va_G} {cI cZ : ClassId} {a : Nat → Nat} {A : Nat → Prop} {r : Int32} {M' : Mem} (C : Cx p s m args meth c cX3_leastOfLastDay 4 RX3 (some .int) D cI cZ A) (K15 : Int32 → Int32 → Int32 → Mem → Res) (hK15 : ∀ (x1 x2 x3 : Int32) (M : Mem) (H : Heap) (locs : List Loc) (ls : Array Slot), K15 x1 x2 x3 M = some (r, M') → St D (wB cI cZ a) A s.heap H locs M → lv_has ls 4 [(0, .ref (a 1)), (1, .int x1), (2, .int x2), (3, .int x3)] → Wi p l e { frames := 2, cells := 0, slots := 0, locals := 41 } s m args below meth c D (wB cI cZ a) A r M' H locs (F0 m 15 ls [])) (x1 x2 x3 : Int32) (M : Mem) (H : Heap) (locs : List Loc) (ls : Array Slot) (hf : gX3_leastOfLastDay_15 K15 x1 x2 x3 M = some (r, M')) (hst : St D (wB cI cZ a) A s.heap H locs M) (hl : lv_has ls 4 [(0, .ref (a 1)), (1, .int x1), (2, .int x2), (3, .int x3)]) : Wi p l e { frames := 2, cells := 0, slots := 0, locals := 41 } s m args below meth c D (wB cI cZ a) A r M' H locs (F0 m 15 ls []) := by
  unfold gX3_leastOfLastDay_15 at hf
  obtain ⟨hx, hb, hml, hown, hU, hr, hlk, hK, hA⟩ := id C
  refine lv_iload_n hx hb dX3_leastOfLastDay_15 rfl (lv_at hl 3 rfl) ?_
  refine lv_aload_n hx hb dX3_leastOfLastDay_16 rfl (lv_at hl 0 rfl) ?_
  refine gf_X3_21 C hst dX3_leastOfLastDay_17 ?_
  refine lv_icmp_ge (tgt := 40) hx hb dX3_leastOfLastDay_20 (by decide) (fun c_20 => ?_) (fun c_20 => ?_)
  · have hf := ifp c_20 hf
    refine lv_iload_n hx hb dX3_leastOfLastDay_40 rfl (lv_at hl 2 rfl) ?_
    obtain ⟨e1, e2⟩ := sinj hf
    subst e1
    subst e2
    exact w_iret C hst dX3_leastOfLastDay_41
  · have hf := ifn c_20 hf
    refine lv_iload_n hx hb dX3_leastOfLastDay_23 rfl (lv_at hl 2 rfl) ?_
    refine lv_aload_n hx hb dX3_leastOfLastDay_24 rfl (lv_at hl 0 rfl) ?_
    refine lv_iload_n hx hb dX3_leastOfLastDay_25 rfl (lv_at hl 1 rfl) ?_
    refine lv_iload_n hx hb dX3_leastOfLastDay_26 rfl (lv_at hl 3 rfl) ?_
    obtain ⟨r_27, M_27, hc_27, hf⟩ := obi_some hf
    refine w_cVi (As := [.int x1, .int x3]) (rest := [.int x2]) C (wB_ad cI cZ a) (mX3_costOf l D cI cZ a x1 x3 M r_27 M_27 hc_27) calX3_costOf cavX3_costOf (mU2 168 rfl rfl) hst hl.1 1 3 rfl rfl rfl rfl (Nat.le_of_ble_eq_true rfl) ⟨Nat.le_of_ble_eq_true rfl, Nat.le_of_ble_eq_true rfl⟩ dX3_leastOfLastDay_27 (fun H locs hst => ?_)
    refine va_mmin hx hb (hml.trans hl.1.symm) hown (hU (.methodLink RX3 33 Lib.Math.min.name) (mU3 26 rfl rfl)) (hU (.static Lib.Math.min.name) (mU3 8 rfl rfl)) (hU (.initialized "java/lang/Math") (mU1 11 rfl rfl)) (hU (.code Lib.Math.min.name Lib.Math.min.code 2 (some .int)) (mU3 9 rfl rfl)) (Nat.le_of_ble_eq_true rfl) (Nat.le_of_ble_eq_true rfl) (Nat.zero_le _) (Nat.zero_le _) dX3_leastOfLastDay_30 ?_
    refine lv_istore_n (lv' := [(2, .int (if r_27 < x2 then r_27 else x2)), (0, .ref (a 1)), (1, .int x1), (3, .int x3)]) hx hb dX3_leastOfLastDay_33 rfl hl (by decide) rfl (fun ls hl => ?_)
    refine lv_iinc (v := (x3 + 1)) (lv' := [(3, .int (x3 + 1)), (2, .int (if r_27 < x2 then r_27 else x2)), (0, .ref (a 1)), (1, .int x1)]) hx hb dX3_leastOfLastDay_34 hl (k := 3) rfl rfl (by decide) rfl (fun ls hl => ?_)
    refine lv_goto (tgt := 15) hx hb dX3_leastOfLastDay_37 (by decide) ?_
    exact hK15 x1 (if r_27 < x2 then r_27 else x2) (x3 + 1) M_27 _ _ _ hf hst (lv_sub hl [2, 3, 1, 0] rfl)
theorem tX3_leastOfLastDay_15 {p : Program} {l : Launch} {e : Env} {s : State} {m : MethodId} {args : Array Value} {below : List Frame} {meth : Method} {c : Code} {D : va_G} {cI cZ : ClassId} {a : Nat → Nat} {A : Nat → Prop} {r : Int32} {M' : Mem} (C : Cx p s m args meth c cX3_leastOfLastDay 4 RX3 (some .int) D cI cZ A)  : ∀ (n : Nat) (x1 x2 x3 : Int32) (M : Mem) (H : Heap) (locs : List Loc) (ls : Array Slot), lX3_leastOfLastDay_15 n x1 x2 x3 M = some (r, M') → St D (wB cI cZ a) A s.heap H locs M → lv_has ls 4 [(0, .ref (a 1)), (1, .int x1), (2, .int x2), (3, .int x3)] → Wi p l e { frames := 2, cells := 0, slots := 0, locals := 41 } s m args below meth c D (wB cI cZ a) A r M' H locs (F0 m 15 ls []) := by
  intro n
  induction n with
  | zero =>
    intro x1 x2 x3 M H locs ls hf
    exact nomatch (show (none : Res) = some (r, M') from hf)
  | succ n ih =>
    intro x1 x2 x3 M H locs ls hf hst hl
    exact kX3_leastOfLastDay_15 C (lX3_leastOfLastDay_15 n) ih x1 x2 x3 M H locs ls hf hst hl

set_option maxHeartbeats 4000000 in
set_option maxRecDepth 100000 in
theorem kX3_leastOfLastDay_0 {p : Program} {l : Launch} {e : Env} {s : State} {m : MethodId} {args : Array Value} {below : List Frame} {meth : Method} {c : Code} {D : va_G} {cI cZ : ClassId} {a : Nat → Nat} {A : Nat → Prop} {r : Int32} {M' : Mem} (C : Cx p s m args meth c cX3_leastOfLastDay 4 RX3 (some .int) D cI cZ A)  (x1 : Int32) (M : Mem) (H : Heap) (locs : List Loc) (ls : Array Slot) (hf : fX3_leastOfLastDay x1 M = some (r, M')) (hst : St D (wB cI cZ a) A s.heap H locs M) (hl : lv_has ls 4 [(0, .ref (a 1)), (1, .int x1)]) : Wi p l e { frames := 2, cells := 0, slots := 0, locals := 41 } s m args below meth c D (wB cI cZ a) A r M' H locs (F0 m 0 ls []) := by
  unfold fX3_leastOfLastDay at hf
  obtain ⟨hx, hb, hml, hown, hU, hr, hlk, hK, hA⟩ := id C
  refine lv_aload_n hx hb dX3_leastOfLastDay_0 rfl (lv_at hl 0 rfl) ?_
  refine lv_iload_n hx hb dX3_leastOfLastDay_1 rfl (lv_at hl 1 rfl) ?_
  refine lv_aload_n hx hb dX3_leastOfLastDay_2 rfl (lv_at hl 0 rfl) ?_
  refine gf_X3_21 C hst dX3_leastOfLastDay_3 ?_
  obtain ⟨r_6, M_6, hc_6, hf⟩ := obi_some hf
  refine w_cVi (As := [.int x1, .int (M 1 3)]) (rest := []) C (wB_ad cI cZ a) (mX3_costOf l D cI cZ a x1 (M 1 3) M r_6 M_6 hc_6) calX3_costOf cavX3_costOf (mU2 168 rfl rfl) hst hl.1 1 3 rfl rfl rfl rfl (Nat.le_of_ble_eq_true rfl) ⟨Nat.le_of_ble_eq_true rfl, Nat.le_of_ble_eq_true rfl⟩ dX3_leastOfLastDay_6 (fun H locs hst => ?_)
  refine lv_istore_n (lv' := [(2, .int r_6), (0, .ref (a 1)), (1, .int x1)]) hx hb dX3_leastOfLastDay_9 rfl hl (by decide) rfl (fun ls hl => ?_)
  refine lv_aload_n hx hb dX3_leastOfLastDay_10 rfl (lv_at hl 1 rfl) ?_
  obtain ⟨r_11, M_11, hc_11, hf⟩ := obi_some hf
  refine w_cVi (As := []) (rest := []) C (wB_ad cI cZ a) (mX3_firstOfLastDay l D cI cZ a  M_6 r_11 M_11 hc_11) calX3_firstOfLastDay cavX3_firstOfLastDay (mU3 19 rfl rfl) hst hl.1 1 3 rfl rfl rfl rfl (Nat.le_of_ble_eq_true rfl) ⟨Nat.le_of_ble_eq_true rfl, Nat.le_of_ble_eq_true rfl⟩ dX3_leastOfLastDay_11 (fun H locs hst => ?_)
  refine lv_istore_n (lv' := [(3, .int r_11), (2, .int r_6), (0, .ref (a 1)), (1, .int x1)]) hx hb dX3_leastOfLastDay_14 rfl hl (by decide) rfl (fun ls hl => ?_)
  exact tX3_leastOfLastDay_15 C  fu x1 r_6 r_11 M_11 _ _ _ hf hst (lv_sub hl [2, 3, 1, 0] rfl)
set_option maxRecDepth 100000 in
theorem mX3_leastOfLastDay (l : Launch) (D : va_G) (cI cZ : ClassId) (a : Nat → Nat) (x1 : Int32) (M : Mem) (r : Int32) (M' : Mem) (hf : fX3_leastOfLastDay x1 M = some (r, M')) : MI l D cI cZ (wB cI cZ a) yX3_leastOfLastDay cX3_leastOfLastDay 4 (some .int) 2 41 [.ref (a 1), .int x1] M r M' :=
  MI.of (by decide) (Nat.le_of_ble_eq_true rfl) (fun p e s m args below meth c A C hst ls hl => kX3_leastOfLastDay_0 C x1 M s.heap [] ls hf hst hl)

def gX3_greatestOfLastDay_15 (K15 : Int32 → Int32 → Int32 → Mem → Res) (x1 x2 x3 : Int32) (M : Mem) : Res :=
  (if (M 1 3) ≤ x3 then some (x2, M) else obi (fX3_costOf x1 x3 M) (fun r_27 M_27 => K15 x1 (if x2 < r_27 then r_27 else x2) (x3 + 1) M_27))
def lX3_greatestOfLastDay_15 : Nat → Int32 → Int32 → Int32 → Mem → Res
  | 0, _, _, _, _ => none
  | n + 1, x1, x2, x3, M => gX3_greatestOfLastDay_15 (lX3_greatestOfLastDay_15 n) x1 x2 x3 M
def fX3_greatestOfLastDay (x1 : Int32) (M : Mem) : Res :=
  obi (fX3_costOf x1 (M 1 3) M) (fun r_6 M_6 => obi (fX3_firstOfLastDay  M_6) (fun r_11 M_11 => lX3_greatestOfLastDay_15  fu x1 r_6 r_11 M_11))
theorem calX3_greatestOfLastDay : Cal yX3_greatestOfLastDay cX3_greatestOfLastDay 4 (some .int) 1 := ⟨(mU3 39 rfl rfl), (mU1 2 rfl rfl), by decide +kernel⟩
theorem cavX3_greatestOfLastDay : CalV yX3_greatestOfLastDay := ⟨(mU3 37 rfl rfl), (mU3 38 rfl rfl)⟩
set_option maxHeartbeats 4000000 in
set_option maxRecDepth 100000 in
theorem kX3_greatestOfLastDay_15 {p : Program} {l : Launch} {e : Env} {s : State} {m : MethodId} {args : Array Value} {below : List Frame} {meth : Method} {c : Code} {D : va_G} {cI cZ : ClassId} {a : Nat → Nat} {A : Nat → Prop} {r : Int32} {M' : Mem} (C : Cx p s m args meth c cX3_greatestOfLastDay 4 RX3 (some .int) D cI cZ A) (K15 : Int32 → Int32 → Int32 → Mem → Res) (hK15 : ∀ (x1 x2 x3 : Int32) (M : Mem) (H : Heap) (locs : List Loc) (ls : Array Slot), K15 x1 x2 x3 M = some (r, M') → St D (wB cI cZ a) A s.heap H locs M → lv_has ls 4 [(0, .ref (a 1)), (1, .int x1), (2, .int x2), (3, .int x3)] → Wi p l e { frames := 2, cells := 0, slots := 0, locals := 41 } s m args below meth c D (wB cI cZ a) A r M' H locs (F0 m 15 ls [])) (x1 x2 x3 : Int32) (M : Mem) (H : Heap) (locs : List Loc) (ls : Array Slot) (hf : gX3_greatestOfLastDay_15 K15 x1 x2 x3 M = some (r, M')) (hst : St D (wB cI cZ a) A s.heap H locs M) (hl : lv_has ls 4 [(0, .ref (a 1)), (1, .int x1), (2, .int x2), (3, .int x3)]) : Wi p l e { frames := 2, cells := 0, slots := 0, locals := 41 } s m args below meth c D (wB cI cZ a) A r M' H locs (F0 m 15 ls []) := by
  unfold gX3_greatestOfLastDay_15 at hf
  obtain ⟨hx, hb, hml, hown, hU, hr, hlk, hK, hA⟩ := id C
  refine lv_iload_n hx hb dX3_greatestOfLastDay_15 rfl (lv_at hl 3 rfl) ?_
  refine lv_aload_n hx hb dX3_greatestOfLastDay_16 rfl (lv_at hl 0 rfl) ?_
  refine gf_X3_21 C hst dX3_greatestOfLastDay_17 ?_
  refine lv_icmp_ge (tgt := 40) hx hb dX3_greatestOfLastDay_20 (by decide) (fun c_20 => ?_) (fun c_20 => ?_)
  · have hf := ifp c_20 hf
    refine lv_iload_n hx hb dX3_greatestOfLastDay_40 rfl (lv_at hl 2 rfl) ?_
    obtain ⟨e1, e2⟩ := sinj hf
    subst e1
    subst e2
    exact w_iret C hst dX3_greatestOfLastDay_41
  · have hf := ifn c_20 hf
    refine lv_iload_n hx hb dX3_greatestOfLastDay_23 rfl (lv_at hl 2 rfl) ?_
    refine lv_aload_n hx hb dX3_greatestOfLastDay_24 rfl (lv_at hl 0 rfl) ?_
    refine lv_iload_n hx hb dX3_greatestOfLastDay_25 rfl (lv_at hl 1 rfl) ?_
    refine lv_iload_n hx hb dX3_greatestOfLastDay_26 rfl (lv_at hl 3 rfl) ?_
    obtain ⟨r_27, M_27, hc_27, hf⟩ := obi_some hf
    refine w_cVi (As := [.int x1, .int x3]) (rest := [.int x2]) C (wB_ad cI cZ a) (mX3_costOf l D cI cZ a x1 x3 M r_27 M_27 hc_27) calX3_costOf cavX3_costOf (mU2 168 rfl rfl) hst hl.1 1 3 rfl rfl rfl rfl (Nat.le_of_ble_eq_true rfl) ⟨Nat.le_of_ble_eq_true rfl, Nat.le_of_ble_eq_true rfl⟩ dX3_greatestOfLastDay_27 (fun H locs hst => ?_)
    refine va_mmax hx hb (hml.trans hl.1.symm) hown (hU (.methodLink RX3 38 Lib.Math.max.name) (mU3 23 rfl rfl)) (hU (.static Lib.Math.max.name) (mU3 24 rfl rfl)) (hU (.initialized "java/lang/Math") (mU1 11 rfl rfl)) (hU (.code Lib.Math.max.name Lib.Math.max.code 2 (some .int)) (mU3 25 rfl rfl)) (Nat.le_of_ble_eq_true rfl) (Nat.le_of_ble_eq_true rfl) (Nat.zero_le _) (Nat.zero_le _) dX3_greatestOfLastDay_30 ?_
    refine lv_istore_n (lv' := [(2, .int (if x2 < r_27 then r_27 else x2)), (0, .ref (a 1)), (1, .int x1), (3, .int x3)]) hx hb dX3_greatestOfLastDay_33 rfl hl (by decide) rfl (fun ls hl => ?_)
    refine lv_iinc (v := (x3 + 1)) (lv' := [(3, .int (x3 + 1)), (2, .int (if x2 < r_27 then r_27 else x2)), (0, .ref (a 1)), (1, .int x1)]) hx hb dX3_greatestOfLastDay_34 hl (k := 3) rfl rfl (by decide) rfl (fun ls hl => ?_)
    refine lv_goto (tgt := 15) hx hb dX3_greatestOfLastDay_37 (by decide) ?_
    exact hK15 x1 (if x2 < r_27 then r_27 else x2) (x3 + 1) M_27 _ _ _ hf hst (lv_sub hl [2, 3, 1, 0] rfl)
theorem tX3_greatestOfLastDay_15 {p : Program} {l : Launch} {e : Env} {s : State} {m : MethodId} {args : Array Value} {below : List Frame} {meth : Method} {c : Code} {D : va_G} {cI cZ : ClassId} {a : Nat → Nat} {A : Nat → Prop} {r : Int32} {M' : Mem} (C : Cx p s m args meth c cX3_greatestOfLastDay 4 RX3 (some .int) D cI cZ A)  : ∀ (n : Nat) (x1 x2 x3 : Int32) (M : Mem) (H : Heap) (locs : List Loc) (ls : Array Slot), lX3_greatestOfLastDay_15 n x1 x2 x3 M = some (r, M') → St D (wB cI cZ a) A s.heap H locs M → lv_has ls 4 [(0, .ref (a 1)), (1, .int x1), (2, .int x2), (3, .int x3)] → Wi p l e { frames := 2, cells := 0, slots := 0, locals := 41 } s m args below meth c D (wB cI cZ a) A r M' H locs (F0 m 15 ls []) := by
  intro n
  induction n with
  | zero =>
    intro x1 x2 x3 M H locs ls hf
    exact nomatch (show (none : Res) = some (r, M') from hf)
  | succ n ih =>
    intro x1 x2 x3 M H locs ls hf hst hl
    exact kX3_greatestOfLastDay_15 C (lX3_greatestOfLastDay_15 n) ih x1 x2 x3 M H locs ls hf hst hl

set_option maxHeartbeats 4000000 in
set_option maxRecDepth 100000 in
theorem kX3_greatestOfLastDay_0 {p : Program} {l : Launch} {e : Env} {s : State} {m : MethodId} {args : Array Value} {below : List Frame} {meth : Method} {c : Code} {D : va_G} {cI cZ : ClassId} {a : Nat → Nat} {A : Nat → Prop} {r : Int32} {M' : Mem} (C : Cx p s m args meth c cX3_greatestOfLastDay 4 RX3 (some .int) D cI cZ A)  (x1 : Int32) (M : Mem) (H : Heap) (locs : List Loc) (ls : Array Slot) (hf : fX3_greatestOfLastDay x1 M = some (r, M')) (hst : St D (wB cI cZ a) A s.heap H locs M) (hl : lv_has ls 4 [(0, .ref (a 1)), (1, .int x1)]) : Wi p l e { frames := 2, cells := 0, slots := 0, locals := 41 } s m args below meth c D (wB cI cZ a) A r M' H locs (F0 m 0 ls []) := by
  unfold fX3_greatestOfLastDay at hf
  obtain ⟨hx, hb, hml, hown, hU, hr, hlk, hK, hA⟩ := id C
  refine lv_aload_n hx hb dX3_greatestOfLastDay_0 rfl (lv_at hl 0 rfl) ?_
  refine lv_iload_n hx hb dX3_greatestOfLastDay_1 rfl (lv_at hl 1 rfl) ?_
  refine lv_aload_n hx hb dX3_greatestOfLastDay_2 rfl (lv_at hl 0 rfl) ?_
  refine gf_X3_21 C hst dX3_greatestOfLastDay_3 ?_
  obtain ⟨r_6, M_6, hc_6, hf⟩ := obi_some hf
  refine w_cVi (As := [.int x1, .int (M 1 3)]) (rest := []) C (wB_ad cI cZ a) (mX3_costOf l D cI cZ a x1 (M 1 3) M r_6 M_6 hc_6) calX3_costOf cavX3_costOf (mU2 168 rfl rfl) hst hl.1 1 3 rfl rfl rfl rfl (Nat.le_of_ble_eq_true rfl) ⟨Nat.le_of_ble_eq_true rfl, Nat.le_of_ble_eq_true rfl⟩ dX3_greatestOfLastDay_6 (fun H locs hst => ?_)
  refine lv_istore_n (lv' := [(2, .int r_6), (0, .ref (a 1)), (1, .int x1)]) hx hb dX3_greatestOfLastDay_9 rfl hl (by decide) rfl (fun ls hl => ?_)
  refine lv_aload_n hx hb dX3_greatestOfLastDay_10 rfl (lv_at hl 1 rfl) ?_
  obtain ⟨r_11, M_11, hc_11, hf⟩ := obi_some hf
  refine w_cVi (As := []) (rest := []) C (wB_ad cI cZ a) (mX3_firstOfLastDay l D cI cZ a  M_6 r_11 M_11 hc_11) calX3_firstOfLastDay cavX3_firstOfLastDay (mU3 19 rfl rfl) hst hl.1 1 3 rfl rfl rfl rfl (Nat.le_of_ble_eq_true rfl) ⟨Nat.le_of_ble_eq_true rfl, Nat.le_of_ble_eq_true rfl⟩ dX3_greatestOfLastDay_11 (fun H locs hst => ?_)
  refine lv_istore_n (lv' := [(3, .int r_11), (2, .int r_6), (0, .ref (a 1)), (1, .int x1)]) hx hb dX3_greatestOfLastDay_14 rfl hl (by decide) rfl (fun ls hl => ?_)
  exact tX3_greatestOfLastDay_15 C  fu x1 r_6 r_11 M_11 _ _ _ hf hst (lv_sub hl [2, 3, 1, 0] rfl)
set_option maxRecDepth 100000 in
theorem mX3_greatestOfLastDay (l : Launch) (D : va_G) (cI cZ : ClassId) (a : Nat → Nat) (x1 : Int32) (M : Mem) (r : Int32) (M' : Mem) (hf : fX3_greatestOfLastDay x1 M = some (r, M')) : MI l D cI cZ (wB cI cZ a) yX3_greatestOfLastDay cX3_greatestOfLastDay 4 (some .int) 2 41 [.ref (a 1), .int x1] M r M' :=
  MI.of (by decide) (Nat.le_of_ble_eq_true rfl) (fun p e s m args below meth c A C hst ls hl => kX3_greatestOfLastDay_0 C x1 M s.heap [] ls hf hst hl)

def gX3_endHour_2 (K2 : Int32 → Mem → Res) (x1 : Int32) (M : Mem) : Res :=
  (if (6 : Int32) ≤ x1 then some (0, (upM M 1 3 ((M 1 3) + (1 : Int32)))) else if x1 < 0 ∨ 6 ≤ Int32.toNatClampNeg x1 then none else if ((x1 * (2000 : Int32)) + (M 1 3)) < 0 ∨ 12000 ≤ Int32.toNatClampNeg ((x1 * (2000 : Int32)) + (M 1 3)) then none else K2 (x1 + 1) (upM (upM M 2 (Int32.toNatClampNeg ((x1 * (2000 : Int32)) + (M 1 3))) ((M 3 (Int32.toNatClampNeg x1)) + (M 4 (Int32.toNatClampNeg x1)))) 4 (Int32.toNatClampNeg x1) (0 : Int32)))
def lX3_endHour_2 : Nat → Int32 → Mem → Res
  | 0, _, _ => none
  | n + 1, x1, M => gX3_endHour_2 (lX3_endHour_2 n) x1 M
def fX3_endHour (M : Mem) : Res :=
  lX3_endHour_2  fu (0 : Int32) M
theorem calX3_endHour : Cal yX3_endHour cX3_endHour 2 none 0 := ⟨(mU2 110 rfl rfl), (mU1 2 rfl rfl), by decide +kernel⟩
theorem cavX3_endHour : CalV yX3_endHour := ⟨(mU2 108 rfl rfl), (mU2 109 rfl rfl)⟩
set_option maxHeartbeats 4000000 in
set_option maxRecDepth 100000 in
theorem kX3_endHour_2 {p : Program} {l : Launch} {e : Env} {s : State} {m : MethodId} {args : Array Value} {below : List Frame} {meth : Method} {c : Code} {D : va_G} {cI cZ : ClassId} {a : Nat → Nat} {A : Nat → Prop} {r : Int32} {M' : Mem} (C : Cx p s m args meth c cX3_endHour 2 RX3 none D cI cZ A) (K2 : Int32 → Mem → Res) (hK2 : ∀ (x1 : Int32) (M : Mem) (H : Heap) (locs : List Loc) (ls : Array Slot), K2 x1 M = some (r, M') → St D (wB cI cZ a) A s.heap H locs M → lv_has ls 2 [(0, .ref (a 1)), (1, .int x1)] → Wv p l e { frames := 0, cells := 0, slots := 0, locals := 0 } s m args below meth c D (wB cI cZ a) A M' H locs (F0 m 2 ls [])) (x1 : Int32) (M : Mem) (H : Heap) (locs : List Loc) (ls : Array Slot) (hf : gX3_endHour_2 K2 x1 M = some (r, M')) (hst : St D (wB cI cZ a) A s.heap H locs M) (hl : lv_has ls 2 [(0, .ref (a 1)), (1, .int x1)]) : Wv p l e { frames := 0, cells := 0, slots := 0, locals := 0 } s m args below meth c D (wB cI cZ a) A M' H locs (F0 m 2 ls []) := by
  unfold gX3_endHour_2 at hf
  obtain ⟨hx, hb, hml, hown, hU, hr, hlk, hK, hA⟩ := id C
  refine lv_iload_n hx hb dX3_endHour_2 rfl (lv_at hl 1 rfl) ?_
  refine lv_bipush (v := 6) hx hb dX3_endHour_3 (by decide) ?_
  refine lv_icmp_ge (tgt := 49) hx hb dX3_endHour_5 (by decide) (fun c_5 => ?_) (fun c_5 => ?_)
  · have hf := ifp c_5 hf
    refine lv_aload_n hx hb dX3_endHour_49 rfl (lv_at hl 0 rfl) ?_
    refine lv_dup hx hb dX3_endHour_50 rfl ?_
    refine gf_X3_21 C hst dX3_endHour_51 ?_
    refine lv_iconst (v := 1) hx hb dX3_endHour_54 (by decide) ?_
    refine lv_iadd hx hb dX3_endHour_55 ?_
    refine pf_X3_21 C hst dX3_endHour_56 (fun H locs hst => ?_)
    obtain ⟨e1, e2⟩ := sinj hf
    subst e1
    subst e2
    exact w_vret C hst dX3_endHour_59
  · have hf := ifn c_5 hf
    refine lv_aload_n hx hb dX3_endHour_8 rfl (lv_at hl 0 rfl) ?_
    refine gf_X3_9 C hst dX3_endHour_9 ?_
    refine lv_iload_n hx hb dX3_endHour_12 rfl (lv_at hl 1 rfl) ?_
    refine lv_sipush (v := 2000) hx hb dX3_endHour_13 (by decide) ?_
    refine lv_imul hx hb dX3_endHour_16 ?_
    refine lv_aload_n hx hb dX3_endHour_17 rfl (lv_at hl 0 rfl) ?_
    refine gf_X3_21 C hst dX3_endHour_18 ?_
    refine lv_iadd hx hb dX3_endHour_21 ?_
    refine lv_aload_n hx hb dX3_endHour_22 rfl (lv_at hl 0 rfl) ?_
    refine gf_X3_15 C hst dX3_endHour_23 ?_
    refine lv_iload_n hx hb dX3_endHour_26 rfl (lv_at hl 1 rfl) ?_
    obtain ⟨h_27, hf⟩ := og hf
    refine w_iald (N := 6) (f := M 3) C hst 3 rfl h_27 dX3_endHour_27 ?_
    refine lv_aload_n hx hb dX3_endHour_28 rfl (lv_at hl 0 rfl) ?_
    refine gf_X3_18 C hst dX3_endHour_29 ?_
    refine lv_iload_n hx hb dX3_endHour_32 rfl (lv_at hl 1 rfl) ?_
    refine w_iald (N := 6) (f := M 4) C hst 4 rfl h_27 dX3_endHour_33 ?_
    refine lv_iadd hx hb dX3_endHour_34 ?_
    obtain ⟨h_35, hf⟩ := og hf
    refine w_iast (N := 12000) (f := M 2) (M' := (upM M 2 (Int32.toNatClampNeg ((x1 * (2000 : Int32)) + (M 1 3))) ((M 3 (Int32.toNatClampNeg x1)) + (M 4 (Int32.toNatClampNeg x1))))) C hst 2 rfl (wB_set2 cI cZ a M (Int32.toNatClampNeg ((x1 * (2000 : Int32)) + (M 1 3))) ((M 3 (Int32.toNatClampNeg x1)) + (M 4 (Int32.toNatClampNeg x1)))) h_35 dX3_endHour_35 (fun H locs hst => ?_)
    refine lv_aload_n hx hb dX3_endHour_36 rfl (lv_at hl 0 rfl) ?_
    refine gf_X3_18 C hst dX3_endHour_37 ?_
    refine lv_iload_n hx hb dX3_endHour_40 rfl (lv_at hl 1 rfl) ?_
    refine lv_iconst (v := 0) hx hb dX3_endHour_41 (by decide) ?_
    refine w_iast (N := 6) (f := (upM M 2 (Int32.toNatClampNeg ((x1 * (2000 : Int32)) + (M 1 3))) ((M 3 (Int32.toNatClampNeg x1)) + (M 4 (Int32.toNatClampNeg x1)))) 4) (M' := (upM (upM M 2 (Int32.toNatClampNeg ((x1 * (2000 : Int32)) + (M 1 3))) ((M 3 (Int32.toNatClampNeg x1)) + (M 4 (Int32.toNatClampNeg x1)))) 4 (Int32.toNatClampNeg x1) (0 : Int32))) C hst 4 rfl (wB_set4 cI cZ a (upM M 2 (Int32.toNatClampNeg ((x1 * (2000 : Int32)) + (M 1 3))) ((M 3 (Int32.toNatClampNeg x1)) + (M 4 (Int32.toNatClampNeg x1)))) (Int32.toNatClampNeg x1) (0 : Int32)) h_27 dX3_endHour_42 (fun H locs hst => ?_)
    refine lv_iinc (v := (x1 + 1)) (lv' := [(1, .int (x1 + 1)), (0, .ref (a 1))]) hx hb dX3_endHour_43 hl (k := 1) rfl rfl (by decide) rfl (fun ls hl => ?_)
    refine lv_goto (tgt := 2) hx hb dX3_endHour_46 (by decide) ?_
    exact hK2 (x1 + 1) (upM (upM M 2 (Int32.toNatClampNeg ((x1 * (2000 : Int32)) + (M 1 3))) ((M 3 (Int32.toNatClampNeg x1)) + (M 4 (Int32.toNatClampNeg x1)))) 4 (Int32.toNatClampNeg x1) (0 : Int32)) _ _ _ hf hst (lv_sub hl [1, 0] rfl)
theorem tX3_endHour_2 {p : Program} {l : Launch} {e : Env} {s : State} {m : MethodId} {args : Array Value} {below : List Frame} {meth : Method} {c : Code} {D : va_G} {cI cZ : ClassId} {a : Nat → Nat} {A : Nat → Prop} {r : Int32} {M' : Mem} (C : Cx p s m args meth c cX3_endHour 2 RX3 none D cI cZ A)  : ∀ (n : Nat) (x1 : Int32) (M : Mem) (H : Heap) (locs : List Loc) (ls : Array Slot), lX3_endHour_2 n x1 M = some (r, M') → St D (wB cI cZ a) A s.heap H locs M → lv_has ls 2 [(0, .ref (a 1)), (1, .int x1)] → Wv p l e { frames := 0, cells := 0, slots := 0, locals := 0 } s m args below meth c D (wB cI cZ a) A M' H locs (F0 m 2 ls []) := by
  intro n
  induction n with
  | zero =>
    intro x1 M H locs ls hf
    exact nomatch (show (none : Res) = some (r, M') from hf)
  | succ n ih =>
    intro x1 M H locs ls hf hst hl
    exact kX3_endHour_2 C (lX3_endHour_2 n) ih x1 M H locs ls hf hst hl

set_option maxHeartbeats 4000000 in
set_option maxRecDepth 100000 in
theorem kX3_endHour_0 {p : Program} {l : Launch} {e : Env} {s : State} {m : MethodId} {args : Array Value} {below : List Frame} {meth : Method} {c : Code} {D : va_G} {cI cZ : ClassId} {a : Nat → Nat} {A : Nat → Prop} {r : Int32} {M' : Mem} (C : Cx p s m args meth c cX3_endHour 2 RX3 none D cI cZ A)  (M : Mem) (H : Heap) (locs : List Loc) (ls : Array Slot) (hf : fX3_endHour M = some (r, M')) (hst : St D (wB cI cZ a) A s.heap H locs M) (hl : lv_has ls 2 [(0, .ref (a 1))]) : Wv p l e { frames := 0, cells := 0, slots := 0, locals := 0 } s m args below meth c D (wB cI cZ a) A M' H locs (F0 m 0 ls []) := by
  unfold fX3_endHour at hf
  obtain ⟨hx, hb, hml, hown, hU, hr, hlk, hK, hA⟩ := id C
  refine lv_iconst (v := 0) hx hb dX3_endHour_0 (by decide) ?_
  refine lv_istore_n (lv' := [(1, .int (0 : Int32)), (0, .ref (a 1))]) hx hb dX3_endHour_1 rfl hl (by decide) rfl (fun ls hl => ?_)
  exact tX3_endHour_2 C  fu (0 : Int32) M _ _ _ hf hst (lv_sub hl [1, 0] rfl)
set_option maxRecDepth 100000 in
theorem mX3_endHour (l : Launch) (D : va_G) (cI cZ : ClassId) (a : Nat → Nat) (M : Mem) (r : Int32) (M' : Mem) (hf : fX3_endHour  M = some (r, M')) : MV l D cI cZ (wB cI cZ a) yX3_endHour cX3_endHour 2 0 0 [.ref (a 1)] M M' :=
  MV.of (by decide) (Nat.le_of_ble_eq_true rfl) (fun p e s m args below meth c A C hst ls hl => kX3_endHour_0 C  M s.heap [] ls hf hst hl)


def fJ6_compare_7cf53 (x0 x1 : Int32) (M : Mem) : Res :=
  (if x1 ≤ x0 then (if x0 = x1 then some ((0 : Int32), M) else some ((1 : Int32), M)) else some ((-1 : Int32), M))
theorem calJ6_compare_7cf53 : Cal yJ6_compare_7cf53 cJ6_compare_7cf53 2 (some .int) 2 := ⟨(mU2 175 rfl rfl), (mU1 12 rfl rfl), by decide +kernel⟩
theorem casJ6_compare_7cf53 : Cond.static yJ6_compare_7cf53 ∈ UU := (mU2 174 rfl rfl)
set_option maxHeartbeats 4000000 in
set_option maxRecDepth 100000 in
theorem kJ6_compare_7cf53_0 {p : Program} {l : Launch} {e : Env} {s : State} {m : MethodId} {args : Array Value} {below : List Frame} {meth : Method} {c : Code} {D : va_G} {cI cZ : ClassId} {a : Nat → Nat} {A : Nat → Prop} {r : Int32} {M' : Mem} (C : Cx p s m args meth c cJ6_compare_7cf53 2 RJ6 (some .int) D cI cZ A)  (x0 x1 : Int32) (M : Mem) (H : Heap) (locs : List Loc) (ls : Array Slot) (hf : fJ6_compare_7cf53 x0 x1 M = some (r, M')) (hst : St D (wB cI cZ a) A s.heap H locs M) (hl : lv_has ls 2 [(0, .int x0), (1, .int x1)]) : Wi p l e { frames := 0, cells := 0, slots := 0, locals := 0 } s m args below meth c D (wB cI cZ a) A r M' H locs (F0 m 0 ls []) := by
  unfold fJ6_compare_7cf53 at hf
  obtain ⟨hx, hb, hml, hown, hU, hr, hlk, hK, hA⟩ := id C
  refine lv_iload_n hx hb dJ6_compare_7cf53_0 rfl (lv_at hl 0 rfl) ?_
  refine lv_iload_n hx hb dJ6_compare_7cf53_1 rfl (lv_at hl 1 rfl) ?_
  refine lv_icmp_ge (tgt := 9) hx hb dJ6_compare_7cf53_2 (by decide) (fun c_2 => ?_) (fun c_2 => ?_)
  · have hf := ifp c_2 hf
    refine lv_iload_n hx hb dJ6_compare_7cf53_9 rfl (lv_at hl 0 rfl) ?_
    refine lv_iload_n hx hb dJ6_compare_7cf53_10 rfl (lv_at hl 1 rfl) ?_
    refine lv_icmp_ne (tgt := 18) hx hb dJ6_compare_7cf53_11 (by decide) (fun c_11 => ?_) (fun c_11 => ?_)
    · have hf := ifn c_11 hf
      refine lv_iconst (v := 1) hx hb dJ6_compare_7cf53_18 (by decide) ?_
      obtain ⟨e1, e2⟩ := sinj hf
      subst e1
      subst e2
      exact w_iret C hst dJ6_compare_7cf53_19
    · have hf := ifp c_11 hf
      refine lv_iconst (v := 0) hx hb dJ6_compare_7cf53_14 (by decide) ?_
      refine lv_goto (tgt := 19) hx hb dJ6_compare_7cf53_15 (by decide) ?_
      obtain ⟨e1, e2⟩ := sinj hf
      subst e1
      subst e2
      exact w_iret C hst dJ6_compare_7cf53_19
  · have hf := ifn c_2 hf
    refine lv_iconst (v := -1) hx hb dJ6_compare_7cf53_5 (by decide) ?_
    refine lv_goto (tgt := 19) hx hb dJ6_compare_7cf53_6 (by decide) ?_
    obtain ⟨e1, e2⟩ := sinj hf
    subst e1
    subst e2
    exact w_iret C hst dJ6_compare_7cf53_19
set_option maxRecDepth 100000 in
theorem mJ6_compare_7cf53 (l : Launch) (D : va_G) (cI cZ : ClassId) (a : Nat → Nat) (x0 x1 : Int32) (M : Mem) (r : Int32) (M' : Mem) (hf : fJ6_compare_7cf53 x0 x1 M = some (r, M')) : MI l D cI cZ (wB cI cZ a) yJ6_compare_7cf53 cJ6_compare_7cf53 2 (some .int) 0 0 [.int x0, .int x1] M r M' :=
  MI.of (by decide) (Nat.le_of_ble_eq_true rfl) (fun p e s m args below meth c A C hst ls hl => kJ6_compare_7cf53_0 C x0 x1 M s.heap [] ls hf hst hl)

def gX7_rise_12 (K4 : Int32 → Int32 → Mem → Res) (K12 : Int32 → Int32 → Int32 → Mem → Res) (x1 x2 x3 : Int32) (M : Mem) : Res :=
  (if x2 ≤ x3 then K4 x1 (x2 + 1) M else if x2 < 0 ∨ 7 ≤ Int32.toNatClampNeg x2 then none else if x3 < 0 ∨ 7 ≤ Int32.toNatClampNeg x3 then none else obi (fJ6_compare_7cf53 (M 13 (Int32.toNatClampNeg x2)) (M 13 (Int32.toNatClampNeg x3)) M) (fun r_30 M_30 => K12 (x1 + r_30) x2 (x3 + 1) M_30))
def lX7_rise_12 (K4 : Int32 → Int32 → Mem → Res) : Nat → Int32 → Int32 → Int32 → Mem → Res
  | 0, _, _, _, _ => none
  | n + 1, x1, x2, x3, M => gX7_rise_12 K4 (lX7_rise_12 K4 n) x1 x2 x3 M
def gX7_rise_4 (K4 : Int32 → Int32 → Mem → Res) (x1 x2 : Int32) (M : Mem) : Res :=
  (if (7 : Int32) ≤ x2 then some (x1, M) else lX7_rise_12 K4 fu x1 x2 (0 : Int32) M)
def lX7_rise_4 : Nat → Int32 → Int32 → Mem → Res
  | 0, _, _, _ => none
  | n + 1, x1, x2, M => gX7_rise_4 (lX7_rise_4 n) x1 x2 M
def fX7_rise (M : Mem) : Res :=
  lX7_rise_4  fu (0 : Int32) (1 : Int32) M
theorem calX7_rise : Cal yX7_rise cX7_rise 4 (some .int) 0 := ⟨(mU2 172 rfl rfl), (mU1 5 rfl rfl), by decide +kernel⟩
theorem cavX7_rise : CalV yX7_rise := ⟨(mU2 171 rfl rfl), (mS1 8 rfl)⟩
set_option maxHeartbeats 4000000 in
set_option maxRecDepth 100000 in
theorem kX7_rise_12 {p : Program} {l : Launch} {e : Env} {s : State} {m : MethodId} {args : Array Value} {below : List Frame} {meth : Method} {c : Code} {D : va_G} {cI cZ : ClassId} {a : Nat → Nat} {A : Nat → Prop} {r : Int32} {M' : Mem} (C : Cx p s m args meth c cX7_rise 4 RX7 (some .int) D cI cZ A) (K4 : Int32 → Int32 → Mem → Res) (hK4 : ∀ (x1 x2 : Int32) (M : Mem) (H : Heap) (locs : List Loc) (ls : Array Slot), K4 x1 x2 M = some (r, M') → St D (wB cI cZ a) A s.heap H locs M → lv_has ls 4 [(0, .ref (a 12)), (1, .int x1), (2, .int x2)] → Wi p l e { frames := 1, cells := 0, slots := 0, locals := 21 } s m args below meth c D (wB cI cZ a) A r M' H locs (F0 m 4 ls [])) (K12 : Int32 → Int32 → Int32 → Mem → Res) (hK12 : ∀ (x1 x2 x3 : Int32) (M : Mem) (H : Heap) (locs : List Loc) (ls : Array Slot), K12 x1 x2 x3 M = some (r, M') → St D (wB cI cZ a) A s.heap H locs M → lv_has ls 4 [(0, .ref (a 12)), (1, .int x1), (2, .int x2), (3, .int x3)] → Wi p l e { frames := 1, cells := 0, slots := 0, locals := 21 } s m args below meth c D (wB cI cZ a) A r M' H locs (F0 m 12 ls [])) (x1 x2 x3 : Int32) (M : Mem) (H : Heap) (locs : List Loc) (ls : Array Slot) (hf : gX7_rise_12 K4 K12 x1 x2 x3 M = some (r, M')) (hst : St D (wB cI cZ a) A s.heap H locs M) (hl : lv_has ls 4 [(0, .ref (a 12)), (1, .int x1), (2, .int x2), (3, .int x3)]) : Wi p l e { frames := 1, cells := 0, slots := 0, locals := 21 } s m args below meth c D (wB cI cZ a) A r M' H locs (F0 m 12 ls []) := by
  unfold gX7_rise_12 at hf
  obtain ⟨hx, hb, hml, hown, hU, hr, hlk, hK, hA⟩ := id C
  refine lv_iload_n hx hb dX7_rise_12 rfl (lv_at hl 3 rfl) ?_
  refine lv_iload_n hx hb dX7_rise_13 rfl (lv_at hl 2 rfl) ?_
  refine lv_icmp_ge (tgt := 41) hx hb dX7_rise_14 (by decide) (fun c_14 => ?_) (fun c_14 => ?_)
  · have hf := ifp c_14 hf
    refine lv_iinc (v := (x2 + 1)) (lv' := [(2, .int (x2 + 1)), (0, .ref (a 12)), (1, .int x1), (3, .int x3)]) hx hb dX7_rise_41 hl (k := 2) rfl rfl (by decide) rfl (fun ls hl => ?_)
    refine lv_goto (tgt := 4) hx hb dX7_rise_44 (by decide) ?_
    exact hK4 x1 (x2 + 1) M _ _ _ hf hst (lv_sub hl [1, 2, 0] rfl)
  · have hf := ifn c_14 hf
    refine lv_iload_n hx hb dX7_rise_17 rfl (lv_at hl 1 rfl) ?_
    refine lv_aload_n hx hb dX7_rise_18 rfl (lv_at hl 0 rfl) ?_
    refine gf_X7_15 C hst dX7_rise_19 ?_
    refine lv_iload_n hx hb dX7_rise_22 rfl (lv_at hl 2 rfl) ?_
    obtain ⟨h_23, hf⟩ := og hf
    refine w_iald (N := 7) (f := M 13) C hst 13 rfl h_23 dX7_rise_23 ?_
    refine lv_aload_n hx hb dX7_rise_24 rfl (lv_at hl 0 rfl) ?_
    refine gf_X7_15 C hst dX7_rise_25 ?_
    refine lv_iload_n hx hb dX7_rise_28 rfl (lv_at hl 3 rfl) ?_
    obtain ⟨h_29, hf⟩ := og hf
    refine w_iald (N := 7) (f := M 13) C hst 13 rfl h_29 dX7_rise_29 ?_
    obtain ⟨r_30, M_30, hc_30, hf⟩ := obi_some hf
    refine w_cSi (As := [.int (M 13 (Int32.toNatClampNeg x2)), .int (M 13 (Int32.toNatClampNeg x3))]) (rest := [.int x1]) C (wB_ad cI cZ a) (mJ6_compare_7cf53 l D cI cZ a (M 13 (Int32.toNatClampNeg x2)) (M 13 (Int32.toNatClampNeg x3)) M r_30 M_30 hc_30) calJ6_compare_7cf53 casJ6_compare_7cf53 (mU2 173 rfl rfl) hst hl.1 rfl rfl (Nat.le_of_ble_eq_true rfl) ⟨Nat.le_of_ble_eq_true rfl, Nat.le_of_ble_eq_true rfl⟩ dX7_rise_30 (fun H locs hst => ?_)
    refine lv_iadd hx hb dX7_rise_33 ?_
    refine lv_istore_n (lv' := [(1, .int (x1 + r_30)), (0, .ref (a 12)), (2, .int x2), (3, .int x3)]) hx hb dX7_rise_34 rfl hl (by decide) rfl (fun ls hl => ?_)
    refine lv_iinc (v := (x3 + 1)) (lv' := [(3, .int (x3 + 1)), (1, .int (x1 + r_30)), (0, .ref (a 12)), (2, .int x2)]) hx hb dX7_rise_35 hl (k := 3) rfl rfl (by decide) rfl (fun ls hl => ?_)
    refine lv_goto (tgt := 12) hx hb dX7_rise_38 (by decide) ?_
    exact hK12 (x1 + r_30) x2 (x3 + 1) M_30 _ _ _ hf hst (lv_sub hl [2, 1, 3, 0] rfl)
theorem tX7_rise_12 {p : Program} {l : Launch} {e : Env} {s : State} {m : MethodId} {args : Array Value} {below : List Frame} {meth : Method} {c : Code} {D : va_G} {cI cZ : ClassId} {a : Nat → Nat} {A : Nat → Prop} {r : Int32} {M' : Mem} (C : Cx p s m args meth c cX7_rise 4 RX7 (some .int) D cI cZ A) (K4 : Int32 → Int32 → Mem → Res) (hK4 : ∀ (x1 x2 : Int32) (M : Mem) (H : Heap) (locs : List Loc) (ls : Array Slot), K4 x1 x2 M = some (r, M') → St D (wB cI cZ a) A s.heap H locs M → lv_has ls 4 [(0, .ref (a 12)), (1, .int x1), (2, .int x2)] → Wi p l e { frames := 1, cells := 0, slots := 0, locals := 21 } s m args below meth c D (wB cI cZ a) A r M' H locs (F0 m 4 ls [])) : ∀ (n : Nat) (x1 x2 x3 : Int32) (M : Mem) (H : Heap) (locs : List Loc) (ls : Array Slot), lX7_rise_12 K4 n x1 x2 x3 M = some (r, M') → St D (wB cI cZ a) A s.heap H locs M → lv_has ls 4 [(0, .ref (a 12)), (1, .int x1), (2, .int x2), (3, .int x3)] → Wi p l e { frames := 1, cells := 0, slots := 0, locals := 21 } s m args below meth c D (wB cI cZ a) A r M' H locs (F0 m 12 ls []) := by
  intro n
  induction n with
  | zero =>
    intro x1 x2 x3 M H locs ls hf
    exact nomatch (show (none : Res) = some (r, M') from hf)
  | succ n ih =>
    intro x1 x2 x3 M H locs ls hf hst hl
    exact kX7_rise_12 C K4 hK4 (lX7_rise_12 K4 n) ih x1 x2 x3 M H locs ls hf hst hl

set_option maxHeartbeats 4000000 in
set_option maxRecDepth 100000 in
theorem kX7_rise_4 {p : Program} {l : Launch} {e : Env} {s : State} {m : MethodId} {args : Array Value} {below : List Frame} {meth : Method} {c : Code} {D : va_G} {cI cZ : ClassId} {a : Nat → Nat} {A : Nat → Prop} {r : Int32} {M' : Mem} (C : Cx p s m args meth c cX7_rise 4 RX7 (some .int) D cI cZ A) (K4 : Int32 → Int32 → Mem → Res) (hK4 : ∀ (x1 x2 : Int32) (M : Mem) (H : Heap) (locs : List Loc) (ls : Array Slot), K4 x1 x2 M = some (r, M') → St D (wB cI cZ a) A s.heap H locs M → lv_has ls 4 [(0, .ref (a 12)), (1, .int x1), (2, .int x2)] → Wi p l e { frames := 1, cells := 0, slots := 0, locals := 21 } s m args below meth c D (wB cI cZ a) A r M' H locs (F0 m 4 ls [])) (x1 x2 : Int32) (M : Mem) (H : Heap) (locs : List Loc) (ls : Array Slot) (hf : gX7_rise_4 K4 x1 x2 M = some (r, M')) (hst : St D (wB cI cZ a) A s.heap H locs M) (hl : lv_has ls 4 [(0, .ref (a 12)), (1, .int x1), (2, .int x2)]) : Wi p l e { frames := 1, cells := 0, slots := 0, locals := 21 } s m args below meth c D (wB cI cZ a) A r M' H locs (F0 m 4 ls []) := by
  unfold gX7_rise_4 at hf
  obtain ⟨hx, hb, hml, hown, hU, hr, hlk, hK, hA⟩ := id C
  refine lv_iload_n hx hb dX7_rise_4 rfl (lv_at hl 2 rfl) ?_
  refine lv_bipush (v := 7) hx hb dX7_rise_5 (by decide) ?_
  refine lv_icmp_ge (tgt := 47) hx hb dX7_rise_7 (by decide) (fun c_7 => ?_) (fun c_7 => ?_)
  · have hf := ifp c_7 hf
    refine lv_iload_n hx hb dX7_rise_47 rfl (lv_at hl 1 rfl) ?_
    obtain ⟨e1, e2⟩ := sinj hf
    subst e1
    subst e2
    exact w_iret C hst dX7_rise_48
  · have hf := ifn c_7 hf
    refine lv_iconst (v := 0) hx hb dX7_rise_10 (by decide) ?_
    refine lv_istore_n (lv' := [(3, .int (0 : Int32)), (0, .ref (a 12)), (1, .int x1), (2, .int x2)]) hx hb dX7_rise_11 rfl hl (by decide) rfl (fun ls hl => ?_)
    exact tX7_rise_12 C K4 hK4 fu x1 x2 (0 : Int32) M _ _ _ hf hst (lv_sub hl [1, 2, 3, 0] rfl)
theorem tX7_rise_4 {p : Program} {l : Launch} {e : Env} {s : State} {m : MethodId} {args : Array Value} {below : List Frame} {meth : Method} {c : Code} {D : va_G} {cI cZ : ClassId} {a : Nat → Nat} {A : Nat → Prop} {r : Int32} {M' : Mem} (C : Cx p s m args meth c cX7_rise 4 RX7 (some .int) D cI cZ A)  : ∀ (n : Nat) (x1 x2 : Int32) (M : Mem) (H : Heap) (locs : List Loc) (ls : Array Slot), lX7_rise_4 n x1 x2 M = some (r, M') → St D (wB cI cZ a) A s.heap H locs M → lv_has ls 4 [(0, .ref (a 12)), (1, .int x1), (2, .int x2)] → Wi p l e { frames := 1, cells := 0, slots := 0, locals := 21 } s m args below meth c D (wB cI cZ a) A r M' H locs (F0 m 4 ls []) := by
  intro n
  induction n with
  | zero =>
    intro x1 x2 M H locs ls hf
    exact nomatch (show (none : Res) = some (r, M') from hf)
  | succ n ih =>
    intro x1 x2 M H locs ls hf hst hl
    exact kX7_rise_4 C (lX7_rise_4 n) ih x1 x2 M H locs ls hf hst hl

set_option maxHeartbeats 4000000 in
set_option maxRecDepth 100000 in
theorem kX7_rise_0 {p : Program} {l : Launch} {e : Env} {s : State} {m : MethodId} {args : Array Value} {below : List Frame} {meth : Method} {c : Code} {D : va_G} {cI cZ : ClassId} {a : Nat → Nat} {A : Nat → Prop} {r : Int32} {M' : Mem} (C : Cx p s m args meth c cX7_rise 4 RX7 (some .int) D cI cZ A)  (M : Mem) (H : Heap) (locs : List Loc) (ls : Array Slot) (hf : fX7_rise M = some (r, M')) (hst : St D (wB cI cZ a) A s.heap H locs M) (hl : lv_has ls 4 [(0, .ref (a 12))]) : Wi p l e { frames := 1, cells := 0, slots := 0, locals := 21 } s m args below meth c D (wB cI cZ a) A r M' H locs (F0 m 0 ls []) := by
  unfold fX7_rise at hf
  obtain ⟨hx, hb, hml, hown, hU, hr, hlk, hK, hA⟩ := id C
  refine lv_iconst (v := 0) hx hb dX7_rise_0 (by decide) ?_
  refine lv_istore_n (lv' := [(1, .int (0 : Int32)), (0, .ref (a 12))]) hx hb dX7_rise_1 rfl hl (by decide) rfl (fun ls hl => ?_)
  refine lv_iconst (v := 1) hx hb dX7_rise_2 (by decide) ?_
  refine lv_istore_n (lv' := [(2, .int (1 : Int32)), (1, .int (0 : Int32)), (0, .ref (a 12))]) hx hb dX7_rise_3 rfl hl (by decide) rfl (fun ls hl => ?_)
  exact tX7_rise_4 C  fu (0 : Int32) (1 : Int32) M _ _ _ hf hst (lv_sub hl [2, 1, 0] rfl)
set_option maxRecDepth 100000 in
theorem mX7_rise (l : Launch) (D : va_G) (cI cZ : ClassId) (a : Nat → Nat) (M : Mem) (r : Int32) (M' : Mem) (hf : fX7_rise  M = some (r, M')) : MI l D cI cZ (wB cI cZ a) yX7_rise cX7_rise 4 (some .int) 1 21 [.ref (a 12)] M r M' :=
  MI.of (by decide) (Nat.le_of_ble_eq_true rfl) (fun p e s m args below meth c A C hst ls hl => kX7_rise_0 C  M s.heap [] ls hf hst hl)

def gX7_isCreeping_2 (K2 : Int32 → Int32 → Int32 → Mem → Res) (x1 x2 x3 : Int32) (M : Mem) : Res :=
  (if (7 : Int32) ≤ x3 then obi (fX7_rise  M) (fun r_32 M_32 => (if r_32 < (15 : Int32) then some ((0 : Int32), M_32) else (if ((10 : Int32) * (M_32 13 (Int32.toNatClampNeg (6 : Int32)))) ≤ ((11 : Int32) * (M_32 13 (Int32.toNatClampNeg (0 : Int32)))) then some ((0 : Int32), M_32) else some ((1 : Int32), M_32)))) else obi (fX3_costOfDay x1 (x2 + x3) M) (fun r_21 M_21 => if x3 < 0 ∨ 7 ≤ Int32.toNatClampNeg x3 then none else K2 x1 x2 (x3 + 1) (upM M_21 13 (Int32.toNatClampNeg x3) r_21)))
def lX7_isCreeping_2 : Nat → Int32 → Int32 → Int32 → Mem → Res
  | 0, _, _, _, _ => none
  | n + 1, x1, x2, x3, M => gX7_isCreeping_2 (lX7_isCreeping_2 n) x1 x2 x3 M
def fX7_isCreeping (x1 x2 : Int32) (M : Mem) : Res :=
  lX7_isCreeping_2  fu x1 x2 (0 : Int32) M
theorem calX7_isCreeping : Cal yX7_isCreeping cX7_isCreeping 4 (some .boolean) 2 := ⟨(mU2 163 rfl rfl), (mU1 5 rfl rfl), by decide +kernel⟩
theorem cavX7_isCreeping : CalV yX7_isCreeping := ⟨(mU2 161 rfl rfl), (mU2 162 rfl rfl)⟩
set_option maxHeartbeats 4000000 in
set_option maxRecDepth 100000 in
theorem kX7_isCreeping_2 {p : Program} {l : Launch} {e : Env} {s : State} {m : MethodId} {args : Array Value} {below : List Frame} {meth : Method} {c : Code} {D : va_G} {cI cZ : ClassId} {a : Nat → Nat} {A : Nat → Prop} {r : Int32} {M' : Mem} (C : Cx p s m args meth c cX7_isCreeping 4 RX7 (some .boolean) D cI cZ A) (K2 : Int32 → Int32 → Int32 → Mem → Res) (hK2 : ∀ (x1 x2 x3 : Int32) (M : Mem) (H : Heap) (locs : List Loc) (ls : Array Slot), K2 x1 x2 x3 M = some (r, M') → St D (wB cI cZ a) A s.heap H locs M → lv_has ls 4 [(0, .ref (a 12)), (1, .int x1), (2, .int x2), (3, .int x3)] → Wi p l e { frames := 2, cells := 0, slots := 0, locals := 46 } s m args below meth c D (wB cI cZ a) A r M' H locs (F0 m 2 ls [])) (x1 x2 x3 : Int32) (M : Mem) (H : Heap) (locs : List Loc) (ls : Array Slot) (hf : gX7_isCreeping_2 K2 x1 x2 x3 M = some (r, M')) (hst : St D (wB cI cZ a) A s.heap H locs M) (hl : lv_has ls 4 [(0, .ref (a 12)), (1, .int x1), (2, .int x2), (3, .int x3)]) : Wi p l e { frames := 2, cells := 0, slots := 0, locals := 46 } s m args below meth c D (wB cI cZ a) A r M' H locs (F0 m 2 ls []) := by
  unfold gX7_isCreeping_2 at hf
  obtain ⟨hx, hb, hml, hown, hU, hr, hlk, hK, hA⟩ := id C
  refine lv_iload_n hx hb dX7_isCreeping_2 rfl (lv_at hl 3 rfl) ?_
  refine lv_bipush (v := 7) hx hb dX7_isCreeping_3 (by decide) ?_
  refine lv_icmp_ge (tgt := 31) hx hb dX7_isCreeping_5 (by decide) (fun c_5 => ?_) (fun c_5 => ?_)
  · have hf := ifp c_5 hf
    refine lv_aload_n hx hb dX7_isCreeping_31 rfl (lv_at hl 0 rfl) ?_
    obtain ⟨r_32, M_32, hc_32, hf⟩ := obi_some hf
    refine w_cVi (As := []) (rest := []) C (wB_ad cI cZ a) (mX7_rise l D cI cZ a  M r_32 M_32 hc_32) calX7_rise cavX7_rise (mU2 169 rfl rfl) hst hl.1 12 7 rfl rfl rfl rfl (Nat.le_of_ble_eq_true rfl) ⟨Nat.le_of_ble_eq_true rfl, Nat.le_of_ble_eq_true rfl⟩ dX7_isCreeping_32 (fun H locs hst => ?_)
    refine lv_bipush (v := 15) hx hb dX7_isCreeping_35 (by decide) ?_
    refine lv_icmp_lt (tgt := 66) hx hb dX7_isCreeping_37 (by decide) (fun c_37 => ?_) (fun c_37 => ?_)
    · have hf := ifp c_37 hf
      refine lv_iconst (v := 0) hx hb dX7_isCreeping_66 (by decide) ?_
      obtain ⟨e1, e2⟩ := sinj hf
      subst e1
      subst e2
      exact w_zret C rfl hst dX7_isCreeping_67
    · have hf := ifn c_37 hf
      refine lv_bipush (v := 10) hx hb dX7_isCreeping_40 (by decide) ?_
      refine lv_aload_n hx hb dX7_isCreeping_42 rfl (lv_at hl 0 rfl) ?_
      refine gf_X7_15 C hst dX7_isCreeping_43 ?_
      refine lv_bipush (v := 6) hx hb dX7_isCreeping_46 (by decide) ?_
      refine w_iald (N := 7) (f := M_32 13) C hst 13 rfl (by unfold vp_in; decide) dX7_isCreeping_48 ?_
      refine lv_imul hx hb dX7_isCreeping_49 ?_
      refine lv_bipush (v := 11) hx hb dX7_isCreeping_50 (by decide) ?_
      refine lv_aload_n hx hb dX7_isCreeping_52 rfl (lv_at hl 0 rfl) ?_
      refine gf_X7_15 C hst dX7_isCreeping_53 ?_
      refine lv_iconst (v := 0) hx hb dX7_isCreeping_56 (by decide) ?_
      refine w_iald (N := 7) (f := M_32 13) C hst 13 rfl (by unfold vp_in; decide) dX7_isCreeping_57 ?_
      refine lv_imul hx hb dX7_isCreeping_58 ?_
      refine lv_icmp_le (tgt := 66) hx hb dX7_isCreeping_59 (by decide) (fun c_59 => ?_) (fun c_59 => ?_)
      · have hf := ifp c_59 hf
        refine lv_iconst (v := 0) hx hb dX7_isCreeping_66 (by decide) ?_
        obtain ⟨e1, e2⟩ := sinj hf
        subst e1
        subst e2
        exact w_zret C rfl hst dX7_isCreeping_67
      · have hf := ifn c_59 hf
        refine lv_iconst (v := 1) hx hb dX7_isCreeping_62 (by decide) ?_
        refine lv_goto (tgt := 67) hx hb dX7_isCreeping_63 (by decide) ?_
        obtain ⟨e1, e2⟩ := sinj hf
        subst e1
        subst e2
        exact w_zret C rfl hst dX7_isCreeping_67
  · have hf := ifn c_5 hf
    refine lv_aload_n hx hb dX7_isCreeping_8 rfl (lv_at hl 0 rfl) ?_
    refine gf_X7_15 C hst dX7_isCreeping_9 ?_
    refine lv_iload_n hx hb dX7_isCreeping_12 rfl (lv_at hl 3 rfl) ?_
    refine lv_aload_n hx hb dX7_isCreeping_13 rfl (lv_at hl 0 rfl) ?_
    refine gf_X7_9 C hst dX7_isCreeping_14 ?_
    refine lv_iload_n hx hb dX7_isCreeping_17 rfl (lv_at hl 1 rfl) ?_
    refine lv_iload_n hx hb dX7_isCreeping_18 rfl (lv_at hl 2 rfl) ?_
    refine lv_iload_n hx hb dX7_isCreeping_19 rfl (lv_at hl 3 rfl) ?_
    refine lv_iadd hx hb dX7_isCreeping_20 ?_
    obtain ⟨r_21, M_21, hc_21, hf⟩ := obi_some hf
    refine w_cVi (As := [.int x1, .int (x2 + x3)]) (rest := [.int x3, .ref (a 13)]) C (wB_ad cI cZ a) (mX3_costOfDay l D cI cZ a x1 (x2 + x3) M r_21 M_21 hc_21) calX3_costOfDay cavX3_costOfDay (mU2 164 rfl rfl) hst hl.1 1 3 rfl rfl rfl rfl (Nat.le_of_ble_eq_true rfl) ⟨Nat.le_of_ble_eq_true rfl, Nat.le_of_ble_eq_true rfl⟩ dX7_isCreeping_21 (fun H locs hst => ?_)
    obtain ⟨h_24, hf⟩ := og hf
    refine w_iast (N := 7) (f := M_21 13) (M' := (upM M_21 13 (Int32.toNatClampNeg x3) r_21)) C hst 13 rfl (wB_set13 cI cZ a M_21 (Int32.toNatClampNeg x3) r_21) h_24 dX7_isCreeping_24 (fun H locs hst => ?_)
    refine lv_iinc (v := (x3 + 1)) (lv' := [(3, .int (x3 + 1)), (0, .ref (a 12)), (1, .int x1), (2, .int x2)]) hx hb dX7_isCreeping_25 hl (k := 3) rfl rfl (by decide) rfl (fun ls hl => ?_)
    refine lv_goto (tgt := 2) hx hb dX7_isCreeping_28 (by decide) ?_
    exact hK2 x1 x2 (x3 + 1) (upM M_21 13 (Int32.toNatClampNeg x3) r_21) _ _ _ hf hst (lv_sub hl [1, 2, 3, 0] rfl)
theorem tX7_isCreeping_2 {p : Program} {l : Launch} {e : Env} {s : State} {m : MethodId} {args : Array Value} {below : List Frame} {meth : Method} {c : Code} {D : va_G} {cI cZ : ClassId} {a : Nat → Nat} {A : Nat → Prop} {r : Int32} {M' : Mem} (C : Cx p s m args meth c cX7_isCreeping 4 RX7 (some .boolean) D cI cZ A)  : ∀ (n : Nat) (x1 x2 x3 : Int32) (M : Mem) (H : Heap) (locs : List Loc) (ls : Array Slot), lX7_isCreeping_2 n x1 x2 x3 M = some (r, M') → St D (wB cI cZ a) A s.heap H locs M → lv_has ls 4 [(0, .ref (a 12)), (1, .int x1), (2, .int x2), (3, .int x3)] → Wi p l e { frames := 2, cells := 0, slots := 0, locals := 46 } s m args below meth c D (wB cI cZ a) A r M' H locs (F0 m 2 ls []) := by
  intro n
  induction n with
  | zero =>
    intro x1 x2 x3 M H locs ls hf
    exact nomatch (show (none : Res) = some (r, M') from hf)
  | succ n ih =>
    intro x1 x2 x3 M H locs ls hf hst hl
    exact kX7_isCreeping_2 C (lX7_isCreeping_2 n) ih x1 x2 x3 M H locs ls hf hst hl

set_option maxHeartbeats 4000000 in
set_option maxRecDepth 100000 in
theorem kX7_isCreeping_0 {p : Program} {l : Launch} {e : Env} {s : State} {m : MethodId} {args : Array Value} {below : List Frame} {meth : Method} {c : Code} {D : va_G} {cI cZ : ClassId} {a : Nat → Nat} {A : Nat → Prop} {r : Int32} {M' : Mem} (C : Cx p s m args meth c cX7_isCreeping 4 RX7 (some .boolean) D cI cZ A)  (x1 x2 : Int32) (M : Mem) (H : Heap) (locs : List Loc) (ls : Array Slot) (hf : fX7_isCreeping x1 x2 M = some (r, M')) (hst : St D (wB cI cZ a) A s.heap H locs M) (hl : lv_has ls 4 [(0, .ref (a 12)), (1, .int x1), (2, .int x2)]) : Wi p l e { frames := 2, cells := 0, slots := 0, locals := 46 } s m args below meth c D (wB cI cZ a) A r M' H locs (F0 m 0 ls []) := by
  unfold fX7_isCreeping at hf
  obtain ⟨hx, hb, hml, hown, hU, hr, hlk, hK, hA⟩ := id C
  refine lv_iconst (v := 0) hx hb dX7_isCreeping_0 (by decide) ?_
  refine lv_istore_n (lv' := [(3, .int (0 : Int32)), (0, .ref (a 12)), (1, .int x1), (2, .int x2)]) hx hb dX7_isCreeping_1 rfl hl (by decide) rfl (fun ls hl => ?_)
  exact tX7_isCreeping_2 C  fu x1 x2 (0 : Int32) M _ _ _ hf hst (lv_sub hl [1, 2, 3, 0] rfl)
set_option maxRecDepth 100000 in
theorem mX7_isCreeping (l : Launch) (D : va_G) (cI cZ : ClassId) (a : Nat → Nat) (x1 x2 : Int32) (M : Mem) (r : Int32) (M' : Mem) (hf : fX7_isCreeping x1 x2 M = some (r, M')) : MI l D cI cZ (wB cI cZ a) yX7_isCreeping cX7_isCreeping 4 (some .boolean) 2 46 [.ref (a 12), .int x1, .int x2] M r M' :=
  MI.of (by decide) (Nat.le_of_ble_eq_true rfl) (fun p e s m args below meth c A C hst ls hl => kX7_isCreeping_0 C x1 x2 M s.heap [] ls hf hst hl)


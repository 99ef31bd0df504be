def gX0_at_5 (K5 : Int32 → Int32 → Int32 → Int32 → Mem → Res) (x1 x2 x3 x4 : Int32) (M : Mem) : Res :=
  (if (6 : Int32) ≤ x4 then some (x3, M) else obi (fX3_costOf x4 x2 M) (fun r_27 M_27 => obi (fX6_partOf x4 x1 r_27 M_27) (fun r_30 M_30 => K5 x1 x2 (x3 + r_30) (x4 + 1) M_30)))
def lX0_at_5 : Nat → Int32 → Int32 → Int32 → Int32 → Mem → Res
  | 0, _, _, _, _, _ => none
  | n + 1, x1, x2, x3, x4, M => gX0_at_5 (lX0_at_5 n) x1 x2 x3 x4 M
def fX0_at (x1 x2 : Int32) (M : Mem) : Res :=
  lX0_at_5  fu x1 x2 (0 : Int32) (0 : Int32) M
theorem calX0_at : Cal yX0_at cX0_at 5 (some .int) 2 := ⟨(mU2 215 rfl rfl), (mU1 8 rfl rfl), by decide +kernel⟩
theorem cavX0_at : CalV yX0_at := ⟨(mU2 213 rfl rfl), (mU2 214 rfl rfl)⟩
set_option maxHeartbeats 4000000 in
set_option maxRecDepth 100000 in
theorem kX0_at_5 {p : Program} {l : Launch} {e : Env} {s : State} {m : MethodId} {args : Array Value} {below : List Frame} {meth : Method} {c : Code} {D : va_G} {cI cZ : ClassId} {a : Nat → Nat} {A : Nat → Prop} {r : Int32} {M' : Mem} (C : Cx p s m args meth c cX0_at 5 RX0 (some .int) D cI cZ A) (K5 : Int32 → Int32 → Int32 → Int32 → Mem → Res) (hK5 : ∀ (x1 x2 x3 x4 : Int32) (M : Mem) (H : Heap) (locs : List Loc) (ls : Array Slot), K5 x1 x2 x3 x4 M = some (r, M') → St D (wB cI cZ a) A s.heap H locs M → lv_has ls 5 [(0, .ref (a 22)), (1, .int x1), (2, .int x2), (3, .int x3), (4, .int x4)] → Wi p l e { frames := 2, cells := 0, slots := 0, locals := 55 } s m args below meth c D (wB cI cZ a) A r M' H locs (F0 m 5 ls [])) (x1 x2 x3 x4 : Int32) (M : Mem) (H : Heap) (locs : List Loc) (ls : Array Slot) (hf : gX0_at_5 K5 x1 x2 x3 x4 M = some (r, M')) (hst : St D (wB cI cZ a) A s.heap H locs M) (hl : lv_has ls 5 [(0, .ref (a 22)), (1, .int x1), (2, .int x2), (3, .int x3), (4, .int x4)]) : Wi p l e { frames := 2, cells := 0, slots := 0, locals := 55 } s m args below meth c D (wB cI cZ a) A r M' H locs (F0 m 5 ls []) := by
  unfold gX0_at_5 at hf
  obtain ⟨hx, hb, hml, hown, hU, hr, hlk, hK, hA⟩ := id C
  refine lv_iload hx hb dX0_at_5 (lv_at hl 4 rfl) ?_
  refine lv_bipush (v := 6) hx hb dX0_at_7 (by decide) ?_
  refine lv_icmp_ge (tgt := 41) hx hb dX0_at_9 (by decide) (fun c_9 => ?_) (fun c_9 => ?_)
  · have hf := ifp c_9 hf
    refine lv_iload_n hx hb dX0_at_41 rfl (lv_at hl 3 rfl) ?_
    obtain ⟨e1, e2⟩ := sinj hf
    subst e1
    subst e2
    exact w_iret C hst dX0_at_42
  · have hf := ifn c_9 hf
    refine lv_iload_n hx hb dX0_at_12 rfl (lv_at hl 3 rfl) ?_
    refine lv_aload_n hx hb dX0_at_13 rfl (lv_at hl 0 rfl) ?_
    refine gf_X0_15 C hst dX0_at_14 ?_
    refine lv_iload hx hb dX0_at_17 (lv_at hl 4 rfl) ?_
    refine lv_iload_n hx hb dX0_at_19 rfl (lv_at hl 1 rfl) ?_
    refine lv_aload_n hx hb dX0_at_20 rfl (lv_at hl 0 rfl) ?_
    refine gf_X0_9 C hst dX0_at_21 ?_
    refine lv_iload hx hb dX0_at_24 (lv_at hl 4 rfl) ?_
    refine lv_iload_n hx hb dX0_at_26 rfl (lv_at hl 2 rfl) ?_
    obtain ⟨r_27, M_27, hc_27, hf⟩ := obi_some hf
    refine w_cVi (As := [.int x4, .int x2]) (rest := [.int x1, .int x4, .ref (a 20), .int x3]) C (wB_ad cI cZ a) (mX3_costOf l D cI cZ a x4 x2 M r_27 M_27 hc_27) calX3_costOf cavX3_costOf (mU2 216 rfl rfl) hst hl.1 1 3 rfl rfl rfl rfl (Nat.le_of_ble_eq_true rfl) ⟨Nat.le_of_ble_eq_true rfl, Nat.le_of_ble_eq_true rfl⟩ dX0_at_27 (fun H locs hst => ?_)
    obtain ⟨r_30, M_30, hc_30, hf⟩ := obi_some hf
    refine w_cVi (As := [.int x4, .int x1, .int r_27]) (rest := [.int x3]) C (wB_ad cI cZ a) (mX6_partOf l D cI cZ a x4 x1 r_27 M_27 r_30 M_30 hc_30) calX6_partOf cavX6_partOf (mU2 217 rfl rfl) hst hl.1 20 6 rfl rfl rfl rfl (Nat.le_of_ble_eq_true rfl) ⟨Nat.le_of_ble_eq_true rfl, Nat.le_of_ble_eq_true rfl⟩ dX0_at_30 (fun H locs hst => ?_)
    refine lv_iadd hx hb dX0_at_33 ?_
    refine lv_istore_n (lv' := [(3, .int (x3 + r_30)), (0, .ref (a 22)), (1, .int x1), (2, .int x2), (4, .int x4)]) hx hb dX0_at_34 rfl hl (by decide) rfl (fun ls hl => ?_)
    refine lv_iinc (v := (x4 + 1)) (lv' := [(4, .int (x4 + 1)), (3, .int (x3 + r_30)), (0, .ref (a 22)), (1, .int x1), (2, .int x2)]) hx hb dX0_at_35 hl (k := 4) rfl rfl (by decide) rfl (fun ls hl => ?_)
    refine lv_goto (tgt := 5) hx hb dX0_at_38 (by decide) ?_
    exact hK5 x1 x2 (x3 + r_30) (x4 + 1) M_30 _ _ _ hf hst (lv_sub hl [2, 3, 4, 1, 0] rfl)
theorem tX0_at_5 {p : Program} {l : Launch} {e : Env} {s : State} {m : MethodId} {args : Array Value} {below : List Frame} {meth : Method} {c : Code} {D : va_G} {cI cZ : ClassId} {a : Nat → Nat} {A : Nat → Prop} {r : Int32} {M' : Mem} (C : Cx p s m args meth c cX0_at 5 RX0 (some .int) D cI cZ A)  : ∀ (n : Nat) (x1 x2 x3 x4 : Int32) (M : Mem) (H : Heap) (locs : List Loc) (ls : Array Slot), lX0_at_5 n x1 x2 x3 x4 M = some (r, M') → St D (wB cI cZ a) A s.heap H locs M → lv_has ls 5 [(0, .ref (a 22)), (1, .int x1), (2, .int x2), (3, .int x3), (4, .int x4)] → Wi p l e { frames := 2, cells := 0, slots := 0, locals := 55 } s m args below meth c D (wB cI cZ a) A r M' H locs (F0 m 5 ls []) := by
  intro n
  induction n with
  | zero =>
    intro x1 x2 x3 x4 M H locs ls hf
    exact nomatch (show (none : Res) = some (r, M') from hf)
  | succ n ih =>
    intro x1 x2 x3 x4 M H locs ls hf hst hl
    exact kX0_at_5 C (lX0_at_5 n) ih x1 x2 x3 x4 M H locs ls hf hst hl

set_option maxHeartbeats 4000000 in
set_option maxRecDepth 100000 in
theorem kX0_at_0 {p : Program} {l : Launch} {e : Env} {s : State} {m : MethodId} {args : Array Value} {below : List Frame} {meth : Method} {c : Code} {D : va_G} {cI cZ : ClassId} {a : Nat → Nat} {A : Nat → Prop} {r : Int32} {M' : Mem} (C : Cx p s m args meth c cX0_at 5 RX0 (some .int) D cI cZ A)  (x1 x2 : Int32) (M : Mem) (H : Heap) (locs : List Loc) (ls : Array Slot) (hf : fX0_at x1 x2 M = some (r, M')) (hst : St D (wB cI cZ a) A s.heap H locs M) (hl : lv_has ls 5 [(0, .ref (a 22)), (1, .int x1), (2, .int x2)]) : Wi p l e { frames := 2, cells := 0, slots := 0, locals := 55 } s m args below meth c D (wB cI cZ a) A r M' H locs (F0 m 0 ls []) := by
  unfold fX0_at at hf
  obtain ⟨hx, hb, hml, hown, hU, hr, hlk, hK, hA⟩ := id C
  refine lv_iconst (v := 0) hx hb dX0_at_0 (by decide) ?_
  refine lv_istore_n (lv' := [(3, .int (0 : Int32)), (0, .ref (a 22)), (1, .int x1), (2, .int x2)]) hx hb dX0_at_1 rfl hl (by decide) rfl (fun ls hl => ?_)
  refine lv_iconst (v := 0) hx hb dX0_at_2 (by decide) ?_
  refine lv_istore (lv' := [(4, .int (0 : Int32)), (3, .int (0 : Int32)), (0, .ref (a 22)), (1, .int x1), (2, .int x2)]) hx hb dX0_at_3 hl (by decide) rfl (fun ls hl => ?_)
  exact tX0_at_5 C  fu x1 x2 (0 : Int32) (0 : Int32) M _ _ _ hf hst (lv_sub hl [2, 3, 4, 1, 0] rfl)
set_option maxRecDepth 100000 in
theorem mX0_at (l : Launch) (D : va_G) (cI cZ : ClassId) (a : Nat → Nat) (x1 x2 : Int32) (M : Mem) (r : Int32) (M' : Mem) (hf : fX0_at x1 x2 M = some (r, M')) : MI l D cI cZ (wB cI cZ a) yX0_at cX0_at 5 (some .int) 2 55 [.ref (a 22), .int x1, .int x2] M r M' :=
  MI.of (by decide) (Nat.le_of_ble_eq_true rfl) (fun p e s m args below meth c A C hst ls hl => kX0_at_0 C x1 x2 M s.heap [] ls hf hst hl)

def gX0_over_6 (K6 : Int32 → Int32 → Int32 → Int32 → Int32 → Mem → Res) (x1 x2 x3 x4 x5 : Int32) (M : Mem) : Res :=
  (if x3 ≤ x5 then some (x4, M) else obi (fX0_at x1 x5 M) (fun r_18 M_18 => K6 x1 x2 x3 (x4 + r_18) (x5 + 1) M_18))
def lX0_over_6 : Nat → Int32 → Int32 → Int32 → Int32 → Int32 → Mem → Res
  | 0, _, _, _, _, _, _ => none
  | n + 1, x1, x2, x3, x4, x5, M => gX0_over_6 (lX0_over_6 n) x1 x2 x3 x4 x5 M
def fX0_over (x1 x2 x3 : Int32) (M : Mem) : Res :=
  lX0_over_6  fu x1 x2 x3 (0 : Int32) x2 M
theorem calX0_over : Cal yX0_over cX0_over 6 (some .int) 3 := ⟨(mU2 211 rfl rfl), (mU1 8 rfl rfl), by decide +kernel⟩
theorem cavX0_over : CalV yX0_over := ⟨(mU2 209 rfl rfl), (mU2 210 rfl rfl)⟩
set_option maxHeartbeats 4000000 in
set_option maxRecDepth 100000 in
theorem kX0_over_6 {p : Program} {l : Launch} {e : Env} {s : State} {m : MethodId} {args : Array Value} {below : List Frame} {meth : Method} {c : Code} {D : va_G} {cI cZ : ClassId} {a : Nat → Nat} {A : Nat → Prop} {r : Int32} {M' : Mem} (C : Cx p s m args meth c cX0_over 6 RX0 (some .int) D cI cZ A) (K6 : Int32 → Int32 → Int32 → Int32 → Int32 → Mem → Res) (hK6 : ∀ (x1 x2 x3 x4 x5 : Int32) (M : Mem) (H : Heap) (locs : List Loc) (ls : Array Slot), K6 x1 x2 x3 x4 x5 M = some (r, M') → St D (wB cI cZ a) A s.heap H locs M → lv_has ls 6 [(0, .ref (a 22)), (1, .int x1), (2, .int x2), (3, .int x3), (4, .int x4), (5, .int x5)] → Wi p l e { frames := 3, cells := 0, slots := 0, locals := 79 } s m args below meth c D (wB cI cZ a) A r M' H locs (F0 m 6 ls [])) (x1 x2 x3 x4 x5 : Int32) (M : Mem) (H : Heap) (locs : List Loc) (ls : Array Slot) (hf : gX0_over_6 K6 x1 x2 x3 x4 x5 M = some (r, M')) (hst : St D (wB cI cZ a) A s.heap H locs M) (hl : lv_has ls 6 [(0, .ref (a 22)), (1, .int x1), (2, .int x2), (3, .int x3), (4, .int x4), (5, .int x5)]) : Wi p l e { frames := 3, cells := 0, slots := 0, locals := 79 } s m args below meth c D (wB cI cZ a) A r M' H locs (F0 m 6 ls []) := by
  unfold gX0_over_6 at hf
  obtain ⟨hx, hb, hml, hown, hU, hr, hlk, hK, hA⟩ := id C
  refine lv_iload hx hb dX0_over_6 (lv_at hl 5 rfl) ?_
  refine lv_iload_n hx hb dX0_over_8 rfl (lv_at hl 3 rfl) ?_
  refine lv_icmp_ge (tgt := 30) hx hb dX0_over_9 (by decide) (fun c_9 => ?_) (fun c_9 => ?_)
  · have hf := ifp c_9 hf
    refine lv_iload hx hb dX0_over_30 (lv_at hl 4 rfl) ?_
    obtain ⟨e1, e2⟩ := sinj hf
    subst e1
    subst e2
    exact w_iret C hst dX0_over_32
  · have hf := ifn c_9 hf
    refine lv_iload hx hb dX0_over_12 (lv_at hl 4 rfl) ?_
    refine lv_aload_n hx hb dX0_over_14 rfl (lv_at hl 0 rfl) ?_
    refine lv_iload_n hx hb dX0_over_15 rfl (lv_at hl 1 rfl) ?_
    refine lv_iload hx hb dX0_over_16 (lv_at hl 5 rfl) ?_
    obtain ⟨r_18, M_18, hc_18, hf⟩ := obi_some hf
    refine w_cVi (As := [.int x1, .int x5]) (rest := [.int x4]) C (wB_ad cI cZ a) (mX0_at l D cI cZ a x1 x5 M r_18 M_18 hc_18) calX0_at cavX0_at (mU2 212 rfl rfl) hst hl.1 22 0 rfl rfl rfl rfl (Nat.le_of_ble_eq_true rfl) ⟨Nat.le_of_ble_eq_true rfl, Nat.le_of_ble_eq_true rfl⟩ dX0_over_18 (fun H locs hst => ?_)
    refine lv_iadd hx hb dX0_over_21 ?_
    refine lv_istore (lv' := [(4, .int (x4 + r_18)), (0, .ref (a 22)), (1, .int x1), (2, .int x2), (3, .int x3), (5, .int x5)]) hx hb dX0_over_22 hl (by decide) rfl (fun ls hl => ?_)
    refine lv_iinc (v := (x5 + 1)) (lv' := [(5, .int (x5 + 1)), (4, .int (x4 + r_18)), (0, .ref (a 22)), (1, .int x1), (2, .int x2), (3, .int x3)]) hx hb dX0_over_24 hl (k := 5) rfl rfl (by decide) rfl (fun ls hl => ?_)
    refine lv_goto (tgt := 6) hx hb dX0_over_27 (by decide) ?_
    exact hK6 x1 x2 x3 (x4 + r_18) (x5 + 1) M_18 _ _ _ hf hst (lv_sub hl [2, 3, 4, 5, 1, 0] rfl)
theorem tX0_over_6 {p : Program} {l : Launch} {e : Env} {s : State} {m : MethodId} {args : Array Value} {below : List Frame} {meth : Method} {c : Code} {D : va_G} {cI cZ : ClassId} {a : Nat → Nat} {A : Nat → Prop} {r : Int32} {M' : Mem} (C : Cx p s m args meth c cX0_over 6 RX0 (some .int) D cI cZ A)  : ∀ (n : Nat) (x1 x2 x3 x4 x5 : Int32) (M : Mem) (H : Heap) (locs : List Loc) (ls : Array Slot), lX0_over_6 n x1 x2 x3 x4 x5 M = some (r, M') → St D (wB cI cZ a) A s.heap H locs M → lv_has ls 6 [(0, .ref (a 22)), (1, .int x1), (2, .int x2), (3, .int x3), (4, .int x4), (5, .int x5)] → Wi p l e { frames := 3, cells := 0, slots := 0, locals := 79 } s m args below meth c D (wB cI cZ a) A r M' H locs (F0 m 6 ls []) := by
  intro n
  induction n with
  | zero =>
    intro x1 x2 x3 x4 x5 M H locs ls hf
    exact nomatch (show (none : Res) = some (r, M') from hf)
  | succ n ih =>
    intro x1 x2 x3 x4 x5 M H locs ls hf hst hl
    exact kX0_over_6 C (lX0_over_6 n) ih x1 x2 x3 x4 x5 M H locs ls hf hst hl

set_option maxHeartbeats 4000000 in
set_option maxRecDepth 100000 in
theorem kX0_over_0 {p : Program} {l : Launch} {e : Env} {s : State} {m : MethodId} {args : Array Value} {below : List Frame} {meth : Method} {c : Code} {D : va_G} {cI cZ : ClassId} {a : Nat → Nat} {A : Nat → Prop} {r : Int32} {M' : Mem} (C : Cx p s m args meth c cX0_over 6 RX0 (some .int) D cI cZ A)  (x1 x2 x3 : Int32) (M : Mem) (H : Heap) (locs : List Loc) (ls : Array Slot) (hf : fX0_over x1 x2 x3 M = some (r, M')) (hst : St D (wB cI cZ a) A s.heap H locs M) (hl : lv_has ls 6 [(0, .ref (a 22)), (1, .int x1), (2, .int x2), (3, .int x3)]) : Wi p l e { frames := 3, cells := 0, slots := 0, locals := 79 } s m args below meth c D (wB cI cZ a) A r M' H locs (F0 m 0 ls []) := by
  unfold fX0_over at hf
  obtain ⟨hx, hb, hml, hown, hU, hr, hlk, hK, hA⟩ := id C
  refine lv_iconst (v := 0) hx hb dX0_over_0 (by decide) ?_
  refine lv_istore (lv' := [(4, .int (0 : Int32)), (0, .ref (a 22)), (1, .int x1), (2, .int x2), (3, .int x3)]) hx hb dX0_over_1 hl (by decide) rfl (fun ls hl => ?_)
  refine lv_iload_n hx hb dX0_over_3 rfl (lv_at hl 3 rfl) ?_
  refine lv_istore (lv' := [(5, .int x2), (4, .int (0 : Int32)), (0, .ref (a 22)), (1, .int x1), (2, .int x2), (3, .int x3)]) hx hb dX0_over_4 hl (by decide) rfl (fun ls hl => ?_)
  exact tX0_over_6 C  fu x1 x2 x3 (0 : Int32) x2 M _ _ _ hf hst (lv_sub hl [2, 3, 4, 5, 1, 0] rfl)
set_option maxRecDepth 100000 in
theorem mX0_over (l : Launch) (D : va_G) (cI cZ : ClassId) (a : Nat → Nat) (x1 x2 x3 : Int32) (M : Mem) (r : Int32) (M' : Mem) (hf : fX0_over x1 x2 x3 M = some (r, M')) : MI l D cI cZ (wB cI cZ a) yX0_over cX0_over 6 (some .int) 3 79 [.ref (a 22), .int x1, .int x2, .int x3] M r M' :=
  MI.of (by decide) (Nat.le_of_ble_eq_true rfl) (fun p e s m args below meth c A C hst ls hl => kX0_over_0 C x1 x2 x3 M s.heap [] ls hf hst hl)

def gX0_forecastLow_4 (K4 : Int32 → Int32 → Int32 → Mem → Res) (x1 x2 x3 : Int32) (M : Mem) : Res :=
  (if (6 : Int32) ≤ x3 then some (x2, M) else obi (fX3_leastOfLastDay x3 M) (fun r_22 M_22 => obi (fX6_partOf x3 x1 r_22 M_22) (fun r_25 M_25 => K4 x1 (x2 + r_25) (x3 + 1) M_25)))
def lX0_forecastLow_4 : Nat → Int32 → Int32 → Int32 → Mem → Res
  | 0, _, _, _, _ => none
  | n + 1, x1, x2, x3, M => gX0_forecastLow_4 (lX0_forecastLow_4 n) x1 x2 x3 M
def fX0_forecastLow (x1 : Int32) (M : Mem) : Res :=
  lX0_forecastLow_4  fu x1 (0 : Int32) (0 : Int32) M
theorem calX0_forecastLow : Cal yX0_forecastLow cX0_forecastLow 4 (some .int) 1 := ⟨(mU3 14 rfl rfl), (mU1 8 rfl rfl), by decide +kernel⟩
theorem cavX0_forecastLow : CalV yX0_forecastLow := ⟨(mU3 12 rfl rfl), (mU3 13 rfl rfl)⟩
set_option maxHeartbeats 4000000 in
set_option maxRecDepth 100000 in
theorem kX0_forecastLow_4 {p : Program} {l : Launch} {e : Env} {s : State} {m : MethodId} {args : Array Value} {below : List Frame} {meth : Method} {c : Code} {D : va_G} {cI cZ : ClassId} {a : Nat → Nat} {A : Nat → Prop} {r : Int32} {M' : Mem} (C : Cx p s m args meth c cX0_forecastLow 4 RX0 (some .int) D cI cZ A) (K4 : Int32 → Int32 → Int32 → Mem → Res) (hK4 : ∀ (x1 x2 x3 : Int32) (M : Mem) (H : Heap) (locs : List Loc) (ls : Array Slot), K4 x1 x2 x3 M = some (r, M') → St D (wB cI cZ a) A s.heap H locs M → lv_has ls 4 [(0, .ref (a 22)), (1, .int x1), (2, .int x2), (3, .int x3)] → Wi p l e { frames := 3, cells := 0, slots := 0, locals := 64 } s m args below meth c D (wB cI cZ a) A r M' H locs (F0 m 4 ls [])) (x1 x2 x3 : Int32) (M : Mem) (H : Heap) (locs : List Loc) (ls : Array Slot) (hf : gX0_forecastLow_4 K4 x1 x2 x3 M = some (r, M')) (hst : St D (wB cI cZ a) A s.heap H locs M) (hl : lv_has ls 4 [(0, .ref (a 22)), (1, .int x1), (2, .int x2), (3, .int x3)]) : Wi p l e { frames := 3, cells := 0, slots := 0, locals := 64 } s m args below meth c D (wB cI cZ a) A r M' H locs (F0 m 4 ls []) := by
  unfold gX0_forecastLow_4 at hf
  obtain ⟨hx, hb, hml, hown, hU, hr, hlk, hK, hA⟩ := id C
  refine lv_iload_n hx hb dX0_forecastLow_4 rfl (lv_at hl 3 rfl) ?_
  refine lv_bipush (v := 6) hx hb dX0_forecastLow_5 (by decide) ?_
  refine lv_icmp_ge (tgt := 36) hx hb dX0_forecastLow_7 (by decide) (fun c_7 => ?_) (fun c_7 => ?_)
  · have hf := ifp c_7 hf
    refine lv_iload_n hx hb dX0_forecastLow_36 rfl (lv_at hl 2 rfl) ?_
    obtain ⟨e1, e2⟩ := sinj hf
    subst e1
    subst e2
    exact w_iret C hst dX0_forecastLow_37
  · have hf := ifn c_7 hf
    refine lv_iload_n hx hb dX0_forecastLow_10 rfl (lv_at hl 2 rfl) ?_
    refine lv_aload_n hx hb dX0_forecastLow_11 rfl (lv_at hl 0 rfl) ?_
    refine gf_X0_15 C hst dX0_forecastLow_12 ?_
    refine lv_iload_n hx hb dX0_forecastLow_15 rfl (lv_at hl 3 rfl) ?_
    refine lv_iload_n hx hb dX0_forecastLow_16 rfl (lv_at hl 1 rfl) ?_
    refine lv_aload_n hx hb dX0_forecastLow_17 rfl (lv_at hl 0 rfl) ?_
    refine gf_X0_9 C hst dX0_forecastLow_18 ?_
    refine lv_iload_n hx hb dX0_forecastLow_21 rfl (lv_at hl 3 rfl) ?_
    obtain ⟨r_22, M_22, hc_22, hf⟩ := obi_some hf
    refine w_cVi (As := [.int x3]) (rest := [.int x1, .int x3, .ref (a 20), .int x2]) C (wB_ad cI cZ a) (mX3_leastOfLastDay l D cI cZ a x3 M r_22 M_22 hc_22) calX3_leastOfLastDay cavX3_leastOfLastDay (mU3 15 rfl rfl) hst hl.1 1 3 rfl rfl rfl rfl (Nat.le_of_ble_eq_true rfl) ⟨Nat.le_of_ble_eq_true rfl, Nat.le_of_ble_eq_true rfl⟩ dX0_forecastLow_22 (fun H locs hst => ?_)
    obtain ⟨r_25, M_25, hc_25, hf⟩ := obi_some hf
    refine w_cVi (As := [.int x3, .int x1, .int r_22]) (rest := [.int x2]) C (wB_ad cI cZ a) (mX6_partOf l D cI cZ a x3 x1 r_22 M_22 r_25 M_25 hc_25) calX6_partOf cavX6_partOf (mU2 217 rfl rfl) hst hl.1 20 6 rfl rfl rfl rfl (Nat.le_of_ble_eq_true rfl) ⟨Nat.le_of_ble_eq_true rfl, Nat.le_of_ble_eq_true rfl⟩ dX0_forecastLow_25 (fun H locs hst => ?_)
    refine lv_iadd hx hb dX0_forecastLow_28 ?_
    refine lv_istore_n (lv' := [(2, .int (x2 + r_25)), (0, .ref (a 22)), (1, .int x1), (3, .int x3)]) hx hb dX0_forecastLow_29 rfl hl (by decide) rfl (fun ls hl => ?_)
    refine lv_iinc (v := (x3 + 1)) (lv' := [(3, .int (x3 + 1)), (2, .int (x2 + r_25)), (0, .ref (a 22)), (1, .int x1)]) hx hb dX0_forecastLow_30 hl (k := 3) rfl rfl (by decide) rfl (fun ls hl => ?_)
    refine lv_goto (tgt := 4) hx hb dX0_forecastLow_33 (by decide) ?_
    exact hK4 x1 (x2 + r_25) (x3 + 1) M_25 _ _ _ hf hst (lv_sub hl [2, 3, 1, 0] rfl)
theorem tX0_forecastLow_4 {p : Program} {l : Launch} {e : Env} {s : State} {m : MethodId} {args : Array Value} {below : List Frame} {meth : Method} {c : Code} {D : va_G} {cI cZ : ClassId} {a : Nat → Nat} {A : Nat → Prop} {r : Int32} {M' : Mem} (C : Cx p s m args meth c cX0_forecastLow 4 RX0 (some .int) D cI cZ A)  : ∀ (n : Nat) (x1 x2 x3 : Int32) (M : Mem) (H : Heap) (locs : List Loc) (ls : Array Slot), lX0_forecastLow_4 n x1 x2 x3 M = some (r, M') → St D (wB cI cZ a) A s.heap H locs M → lv_has ls 4 [(0, .ref (a 22)), (1, .int x1), (2, .int x2), (3, .int x3)] → Wi p l e { frames := 3, cells := 0, slots := 0, locals := 64 } s m args below meth c D (wB cI cZ a) A r M' H locs (F0 m 4 ls []) := by
  intro n
  induction n with
  | zero =>
    intro x1 x2 x3 M H locs ls hf
    exact nomatch (show (none : Res) = some (r, M') from hf)
  | succ n ih =>
    intro x1 x2 x3 M H locs ls hf hst hl
    exact kX0_forecastLow_4 C (lX0_forecastLow_4 n) ih x1 x2 x3 M H locs ls hf hst hl

set_option maxHeartbeats 4000000 in
set_option maxRecDepth 100000 in
theorem kX0_forecastLow_0 {p : Program} {l : Launch} {e : Env} {s : State} {m : MethodId} {args : Array Value} {below : List Frame} {meth : Method} {c : Code} {D : va_G} {cI cZ : ClassId} {a : Nat → Nat} {A : Nat → Prop} {r : Int32} {M' : Mem} (C : Cx p s m args meth c cX0_forecastLow 4 RX0 (some .int) D cI cZ A)  (x1 : Int32) (M : Mem) (H : Heap) (locs : List Loc) (ls : Array Slot) (hf : fX0_forecastLow x1 M = some (r, M')) (hst : St D (wB cI cZ a) A s.heap H locs M) (hl : lv_has ls 4 [(0, .ref (a 22)), (1, .int x1)]) : Wi p l e { frames := 3, cells := 0, slots := 0, locals := 64 } s m args below meth c D (wB cI cZ a) A r M' H locs (F0 m 0 ls []) := by
  unfold fX0_forecastLow at hf
  obtain ⟨hx, hb, hml, hown, hU, hr, hlk, hK, hA⟩ := id C
  refine lv_iconst (v := 0) hx hb dX0_forecastLow_0 (by decide) ?_
  refine lv_istore_n (lv' := [(2, .int (0 : Int32)), (0, .ref (a 22)), (1, .int x1)]) hx hb dX0_forecastLow_1 rfl hl (by decide) rfl (fun ls hl => ?_)
  refine lv_iconst (v := 0) hx hb dX0_forecastLow_2 (by decide) ?_
  refine lv_istore_n (lv' := [(3, .int (0 : Int32)), (2, .int (0 : Int32)), (0, .ref (a 22)), (1, .int x1)]) hx hb dX0_forecastLow_3 rfl hl (by decide) rfl (fun ls hl => ?_)
  exact tX0_forecastLow_4 C  fu x1 (0 : Int32) (0 : Int32) M _ _ _ hf hst (lv_sub hl [2, 3, 1, 0] rfl)
set_option maxRecDepth 100000 in
theorem mX0_forecastLow (l : Launch) (D : va_G) (cI cZ : ClassId) (a : Nat → Nat) (x1 : Int32) (M : Mem) (r : Int32) (M' : Mem) (hf : fX0_forecastLow x1 M = some (r, M')) : MI l D cI cZ (wB cI cZ a) yX0_forecastLow cX0_forecastLow 4 (some .int) 3 64 [.ref (a 22), .int x1] M r M' :=
  MI.of (by decide) (Nat.le_of_ble_eq_true rfl) (fun p e s m args below meth c A C hst ls hl => kX0_forecastLow_0 C x1 M s.heap [] ls hf hst hl)

def gX0_forecastHigh_4 (K4 : Int32 → Int32 → Int32 → Mem → Res) (x1 x2 x3 : Int32) (M : Mem) : Res :=
  (if (6 : Int32) ≤ x3 then some (x2, M) else obi (fX3_greatestOfLastDay x3 M) (fun r_22 M_22 => obi (fX6_partOf x3 x1 r_22 M_22) (fun r_25 M_25 => K4 x1 (x2 + r_25) (x3 + 1) M_25)))
def lX0_forecastHigh_4 : Nat → Int32 → Int32 → Int32 → Mem → Res
  | 0, _, _, _, _ => none
  | n + 1, x1, x2, x3, M => gX0_forecastHigh_4 (lX0_forecastHigh_4 n) x1 x2 x3 M
def fX0_forecastHigh (x1 : Int32) (M : Mem) : Res :=
  lX0_forecastHigh_4  fu x1 (0 : Int32) (0 : Int32) M
theorem calX0_forecastHigh : Cal yX0_forecastHigh cX0_forecastHigh 4 (some .int) 1 := ⟨(mU3 35 rfl rfl), (mU1 8 rfl rfl), by decide +kernel⟩
theorem cavX0_forecastHigh : CalV yX0_forecastHigh := ⟨(mU3 33 rfl rfl), (mU3 34 rfl rfl)⟩
set_option maxHeartbeats 4000000 in
set_option maxRecDepth 100000 in
theorem kX0_forecastHigh_4 {p : Program} {l : Launch} {e : Env} {s : State} {m : MethodId} {args : Array Value} {below : List Frame} {meth : Method} {c : Code} {D : va_G} {cI cZ : ClassId} {a : Nat → Nat} {A : Nat → Prop} {r : Int32} {M' : Mem} (C : Cx p s m args meth c cX0_forecastHigh 4 RX0 (some .int) D cI cZ A) (K4 : Int32 → Int32 → Int32 → Mem → Res) (hK4 : ∀ (x1 x2 x3 : Int32) (M : Mem) (H : Heap) (locs : List Loc) (ls : Array Slot), K4 x1 x2 x3 M = some (r, M') → St D (wB cI cZ a) A s.heap H locs M → lv_has ls 4 [(0, .ref (a 22)), (1, .int x1), (2, .int x2), (3, .int x3)] → Wi p l e { frames := 3, cells := 0, slots := 0, locals := 64 } s m args below meth c D (wB cI cZ a) A r M' H locs (F0 m 4 ls [])) (x1 x2 x3 : Int32) (M : Mem) (H : Heap) (locs : List Loc) (ls : Array Slot) (hf : gX0_forecastHigh_4 K4 x1 x2 x3 M = some (r, M')) (hst : St D (wB cI cZ a) A s.heap H locs M) (hl : lv_has ls 4 [(0, .ref (a 22)), (1, .int x1), (2, .int x2), (3, .int x3)]) : Wi p l e { frames := 3, cells := 0, slots := 0, locals := 64 } s m args below meth c D (wB cI cZ a) A r M' H locs (F0 m 4 ls []) := by
  unfold gX0_forecastHigh_4 at hf
  obtain ⟨hx, hb, hml, hown, hU, hr, hlk, hK, hA⟩ := id C
  refine lv_iload_n hx hb dX0_forecastHigh_4 rfl (lv_at hl 3 rfl) ?_
  refine lv_bipush (v := 6) hx hb dX0_forecastHigh_5 (by decide) ?_
  refine lv_icmp_ge (tgt := 36) hx hb dX0_forecastHigh_7 (by decide) (fun c_7 => ?_) (fun c_7 => ?_)
  · have hf := ifp c_7 hf
    refine lv_iload_n hx hb dX0_forecastHigh_36 rfl (lv_at hl 2 rfl) ?_
    obtain ⟨e1, e2⟩ := sinj hf
    subst e1
    subst e2
    exact w_iret C hst dX0_forecastHigh_37
  · have hf := ifn c_7 hf
    refine lv_iload_n hx hb dX0_forecastHigh_10 rfl (lv_at hl 2 rfl) ?_
    refine lv_aload_n hx hb dX0_forecastHigh_11 rfl (lv_at hl 0 rfl) ?_
    refine gf_X0_15 C hst dX0_forecastHigh_12 ?_
    refine lv_iload_n hx hb dX0_forecastHigh_15 rfl (lv_at hl 3 rfl) ?_
    refine lv_iload_n hx hb dX0_forecastHigh_16 rfl (lv_at hl 1 rfl) ?_
    refine lv_aload_n hx hb dX0_forecastHigh_17 rfl (lv_at hl 0 rfl) ?_
    refine gf_X0_9 C hst dX0_forecastHigh_18 ?_
    refine lv_iload_n hx hb dX0_forecastHigh_21 rfl (lv_at hl 3 rfl) ?_
    obtain ⟨r_22, M_22, hc_22, hf⟩ := obi_some hf
    refine w_cVi (As := [.int x3]) (rest := [.int x1, .int x3, .ref (a 20), .int x2]) C (wB_ad cI cZ a) (mX3_greatestOfLastDay l D cI cZ a x3 M r_22 M_22 hc_22) calX3_greatestOfLastDay cavX3_greatestOfLastDay (mU3 36 rfl rfl) hst hl.1 1 3 rfl rfl rfl rfl (Nat.le_of_ble_eq_true rfl) ⟨Nat.le_of_ble_eq_true rfl, Nat.le_of_ble_eq_true rfl⟩ dX0_forecastHigh_22 (fun H locs hst => ?_)
    obtain ⟨r_25, M_25, hc_25, hf⟩ := obi_some hf
    refine w_cVi (As := [.int x3, .int x1, .int r_22]) (rest := [.int x2]) C (wB_ad cI cZ a) (mX6_partOf l D cI cZ a x3 x1 r_22 M_22 r_25 M_25 hc_25) calX6_partOf cavX6_partOf (mU2 217 rfl rfl) hst hl.1 20 6 rfl rfl rfl rfl (Nat.le_of_ble_eq_true rfl) ⟨Nat.le_of_ble_eq_true rfl, Nat.le_of_ble_eq_true rfl⟩ dX0_forecastHigh_25 (fun H locs hst => ?_)
    refine lv_iadd hx hb dX0_forecastHigh_28 ?_
    refine lv_istore_n (lv' := [(2, .int (x2 + r_25)), (0, .ref (a 22)), (1, .int x1), (3, .int x3)]) hx hb dX0_forecastHigh_29 rfl hl (by decide) rfl (fun ls hl => ?_)
    refine lv_iinc (v := (x3 + 1)) (lv' := [(3, .int (x3 + 1)), (2, .int (x2 + r_25)), (0, .ref (a 22)), (1, .int x1)]) hx hb dX0_forecastHigh_30 hl (k := 3) rfl rfl (by decide) rfl (fun ls hl => ?_)
    refine lv_goto (tgt := 4) hx hb dX0_forecastHigh_33 (by decide) ?_
    exact hK4 x1 (x2 + r_25) (x3 + 1) M_25 _ _ _ hf hst (lv_sub hl [2, 3, 1, 0] rfl)
theorem tX0_forecastHigh_4 {p : Program} {l : Launch} {e : Env} {s : State} {m : MethodId} {args : Array Value} {below : List Frame} {meth : Method} {c : Code} {D : va_G} {cI cZ : ClassId} {a : Nat → Nat} {A : Nat → Prop} {r : Int32} {M' : Mem} (C : Cx p s m args meth c cX0_forecastHigh 4 RX0 (some .int) D cI cZ A)  : ∀ (n : Nat) (x1 x2 x3 : Int32) (M : Mem) (H : Heap) (locs : List Loc) (ls : Array Slot), lX0_forecastHigh_4 n x1 x2 x3 M = some (r, M') → St D (wB cI cZ a) A s.heap H locs M → lv_has ls 4 [(0, .ref (a 22)), (1, .int x1), (2, .int x2), (3, .int x3)] → Wi p l e { frames := 3, cells := 0, slots := 0, locals := 64 } s m args below meth c D (wB cI cZ a) A r M' H locs (F0 m 4 ls []) := by
  intro n
  induction n with
  | zero =>
    intro x1 x2 x3 M H locs ls hf
    exact nomatch (show (none : Res) = some (r, M') from hf)
  | succ n ih =>
    intro x1 x2 x3 M H locs ls hf hst hl
    exact kX0_forecastHigh_4 C (lX0_forecastHigh_4 n) ih x1 x2 x3 M H locs ls hf hst hl

set_option maxHeartbeats 4000000 in
set_option maxRecDepth 100000 in
theorem kX0_forecastHigh_0 {p : Program} {l : Launch} {e : Env} {s : State} {m : MethodId} {args : Array Value} {below : List Frame} {meth : Method} {c : Code} {D : va_G} {cI cZ : ClassId} {a : Nat → Nat} {A : Nat → Prop} {r : Int32} {M' : Mem} (C : Cx p s m args meth c cX0_forecastHigh 4 RX0 (some .int) D cI cZ A)  (x1 : Int32) (M : Mem) (H : Heap) (locs : List Loc) (ls : Array Slot) (hf : fX0_forecastHigh x1 M = some (r, M')) (hst : St D (wB cI cZ a) A s.heap H locs M) (hl : lv_has ls 4 [(0, .ref (a 22)), (1, .int x1)]) : Wi p l e { frames := 3, cells := 0, slots := 0, locals := 64 } s m args below meth c D (wB cI cZ a) A r M' H locs (F0 m 0 ls []) := by
  unfold fX0_forecastHigh at hf
  obtain ⟨hx, hb, hml, hown, hU, hr, hlk, hK, hA⟩ := id C
  refine lv_iconst (v := 0) hx hb dX0_forecastHigh_0 (by decide) ?_
  refine lv_istore_n (lv' := [(2, .int (0 : Int32)), (0, .ref (a 22)), (1, .int x1)]) hx hb dX0_forecastHigh_1 rfl hl (by decide) rfl (fun ls hl => ?_)
  refine lv_iconst (v := 0) hx hb dX0_forecastHigh_2 (by decide) ?_
  refine lv_istore_n (lv' := [(3, .int (0 : Int32)), (2, .int (0 : Int32)), (0, .ref (a 22)), (1, .int x1)]) hx hb dX0_forecastHigh_3 rfl hl (by decide) rfl (fun ls hl => ?_)
  exact tX0_forecastHigh_4 C  fu x1 (0 : Int32) (0 : Int32) M _ _ _ hf hst (lv_sub hl [2, 3, 1, 0] rfl)
set_option maxRecDepth 100000 in
theorem mX0_forecastHigh (l : Launch) (D : va_G) (cI cZ : ClassId) (a : Nat → Nat) (x1 : Int32) (M : Mem) (r : Int32) (M' : Mem) (hf : fX0_forecastHigh x1 M = some (r, M')) : MI l D cI cZ (wB cI cZ a) yX0_forecastHigh cX0_forecastHigh 4 (some .int) 3 64 [.ref (a 22), .int x1] M r M' :=
  MI.of (by decide) (Nat.le_of_ble_eq_true rfl) (fun p e s m args below meth c A C hst ls hl => kX0_forecastHigh_0 C x1 M s.heap [] ls hf hst hl)

def fX1_set (x1 x2 x3 x4 : Int32) (M : Mem) : Res :=
  if x1 < 0 ∨ 4 ≤ Int32.toNatClampNeg x1 then none else some (0, (upM (upM (upM M 24 (Int32.toNatClampNeg x1) x2) 25 (Int32.toNatClampNeg x1) x3) 26 (Int32.toNatClampNeg x1) x4))
theorem calX1_set : Cal yX1_set cX1_set 5 none 4 := ⟨(mU2 233 rfl rfl), (mU1 9 rfl rfl), by decide +kernel⟩
theorem cavX1_set : CalV yX1_set := ⟨(mU2 231 rfl rfl), (mU2 232 rfl rfl)⟩
set_option maxHeartbeats 4000000 in
set_option maxRecDepth 100000 in
theorem kX1_set_0 {p : Program} {l : Launch} {e : Env} {s : State} {m : MethodId} {args : Array Value} {below : List Frame} {meth : Method} {c : Code} {D : va_G} {cI cZ : ClassId} {a : Nat → Nat} {A : Nat → Prop} {r : Int32} {M' : Mem} (C : Cx p s m args meth c cX1_set 5 RX1 none D cI cZ A)  (x1 x2 x3 x4 : Int32) (M : Mem) (H : Heap) (locs : List Loc) (ls : Array Slot) (hf : fX1_set x1 x2 x3 x4 M = some (r, M')) (hst : St D (wB cI cZ a) A s.heap H locs M) (hl : lv_has ls 5 [(0, .ref (a 23)), (1, .int x1), (2, .int x2), (3, .int x3), (4, .int x4)]) : Wv p l e { frames := 0, cells := 0, slots := 0, locals := 0 } s m args below meth c D (wB cI cZ a) A M' H locs (F0 m 0 ls []) := by
  unfold fX1_set at hf
  obtain ⟨hx, hb, hml, hown, hU, hr, hlk, hK, hA⟩ := id C
  refine lv_aload_n hx hb dX1_set_0 rfl (lv_at hl 0 rfl) ?_
  refine gf_X1_19 C hst dX1_set_1 ?_
  refine lv_iload_n hx hb dX1_set_4 rfl (lv_at hl 1 rfl) ?_
  refine lv_iload_n hx hb dX1_set_5 rfl (lv_at hl 2 rfl) ?_
  obtain ⟨h_6, hf⟩ := og hf
  refine w_iast (N := 4) (f := M 24) (M' := (upM M 24 (Int32.toNatClampNeg x1) x2)) C hst 24 rfl (wB_set24 cI cZ a M (Int32.toNatClampNeg x1) x2) h_6 dX1_set_6 (fun H locs hst => ?_)
  refine lv_aload_n hx hb dX1_set_7 rfl (lv_at hl 0 rfl) ?_
  refine gf_X1_23 C hst dX1_set_8 ?_
  refine lv_iload_n hx hb dX1_set_11 rfl (lv_at hl 1 rfl) ?_
  refine lv_iload_n hx hb dX1_set_12 rfl (lv_at hl 3 rfl) ?_
  refine w_iast (N := 4) (f := (upM M 24 (Int32.toNatClampNeg x1) x2) 25) (M' := (upM (upM M 24 (Int32.toNatClampNeg x1) x2) 25 (Int32.toNatClampNeg x1) x3)) C hst 25 rfl (wB_set25 cI cZ a (upM M 24 (Int32.toNatClampNeg x1) x2) (Int32.toNatClampNeg x1) x3) h_6 dX1_set_13 (fun H locs hst => ?_)
  refine lv_aload_n hx hb dX1_set_14 rfl (lv_at hl 0 rfl) ?_
  refine gf_X1_26 C hst dX1_set_15 ?_
  refine lv_iload_n hx hb dX1_set_18 rfl (lv_at hl 1 rfl) ?_
  refine lv_iload hx hb dX1_set_19 (lv_at hl 4 rfl) ?_
  refine w_iast (N := 4) (f := (upM (upM M 24 (Int32.toNatClampNeg x1) x2) 25 (Int32.toNatClampNeg x1) x3) 26) (M' := (upM (upM (upM M 24 (Int32.toNatClampNeg x1) x2) 25 (Int32.toNatClampNeg x1) x3) 26 (Int32.toNatClampNeg x1) x4)) C hst 26 rfl (wB_set26 cI cZ a (upM (upM M 24 (Int32.toNatClampNeg x1) x2) 25 (Int32.toNatClampNeg x1) x3) (Int32.toNatClampNeg x1) x4) h_6 dX1_set_21 (fun H locs hst => ?_)
  obtain ⟨e1, e2⟩ := sinj hf
  subst e1
  subst e2
  exact w_vret C hst dX1_set_22
set_option maxRecDepth 100000 in
theorem mX1_set (l : Launch) (D : va_G) (cI cZ : ClassId) (a : Nat → Nat) (x1 x2 x3 x4 : Int32) (M : Mem) (r : Int32) (M' : Mem) (hf : fX1_set x1 x2 x3 x4 M = some (r, M')) : MV l D cI cZ (wB cI cZ a) yX1_set cX1_set 5 0 0 [.ref (a 23), .int x1, .int x2, .int x3, .int x4] M M' :=
  MV.of (by decide) (Nat.le_of_ble_eq_true rfl) (fun p e s m args below meth c A C hst ls hl => kX1_set_0 C x1 x2 x3 x4 M s.heap [] ls hf hst hl)

def fX1_sumOf (x1 : Int32) (M : Mem) : Res :=
  if x1 < 0 ∨ 4 ≤ Int32.toNatClampNeg x1 then none else some ((M 24 (Int32.toNatClampNeg x1)), M)
theorem calX1_sumOf : Cal yX1_sumOf cX1_sumOf 2 (some .int) 1 := ⟨(mU3 1 rfl rfl), (mU1 9 rfl rfl), by decide +kernel⟩
theorem cavX1_sumOf : CalV yX1_sumOf := ⟨(mU2 239 rfl rfl), (mU3 0 rfl rfl)⟩
set_option maxHeartbeats 4000000 in
set_option maxRecDepth 100000 in
theorem kX1_sumOf_0 {p : Program} {l : Launch} {e : Env} {s : State} {m : MethodId} {args : Array Value} {below : List Frame} {meth : Method} {c : Code} {D : va_G} {cI cZ : ClassId} {a : Nat → Nat} {A : Nat → Prop} {r : Int32} {M' : Mem} (C : Cx p s m args meth c cX1_sumOf 2 RX1 (some .int) D cI cZ A)  (x1 : Int32) (M : Mem) (H : Heap) (locs : List Loc) (ls : Array Slot) (hf : fX1_sumOf x1 M = some (r, M')) (hst : St D (wB cI cZ a) A s.heap H locs M) (hl : lv_has ls 2 [(0, .ref (a 23)), (1, .int x1)]) : Wi p l e { frames := 0, cells := 0, slots := 0, locals := 0 } s m args below meth c D (wB cI cZ a) A r M' H locs (F0 m 0 ls []) := by
  unfold fX1_sumOf at hf
  obtain ⟨hx, hb, hml, hown, hU, hr, hlk, hK, hA⟩ := id C
  refine lv_aload_n hx hb dX1_sumOf_0 rfl (lv_at hl 0 rfl) ?_
  refine gf_X1_19 C hst dX1_sumOf_1 ?_
  refine lv_iload_n hx hb dX1_sumOf_4 rfl (lv_at hl 1 rfl) ?_
  obtain ⟨h_5, hf⟩ := og hf
  refine w_iald (N := 4) (f := M 24) C hst 24 rfl h_5 dX1_sumOf_5 ?_
  obtain ⟨e1, e2⟩ := sinj hf
  subst e1
  subst e2
  exact w_iret C hst dX1_sumOf_6
set_option maxRecDepth 100000 in
theorem mX1_sumOf (l : Launch) (D : va_G) (cI cZ : ClassId) (a : Nat → Nat) (x1 : Int32) (M : Mem) (r : Int32) (M' : Mem) (hf : fX1_sumOf x1 M = some (r, M')) : MI l D cI cZ (wB cI cZ a) yX1_sumOf cX1_sumOf 2 (some .int) 0 0 [.ref (a 23), .int x1] M r M' :=
  MI.of (by decide) (Nat.le_of_ble_eq_true rfl) (fun p e s m args below meth c A C hst ls hl => kX1_sumOf_0 C x1 M s.heap [] ls hf hst hl)

def fX1_spent (x1 : Int32) (M : Mem) : Res :=
  if x1 < 0 ∨ 4 ≤ Int32.toNatClampNeg x1 then none else obi (fX3_now  M) (fun r_21 M_21 => obi (fX0_over x1 (M 25 (Int32.toNatClampNeg x1)) (if (r_21 + (1 : Int32)) < (M 26 (Int32.toNatClampNeg x1)) then (r_21 + (1 : Int32)) else (M 26 (Int32.toNatClampNeg x1))) M_21) (fun r_29 M_29 => some (r_29, M_29)))
theorem calX1_spent : Cal yX1_spent cX1_spent 2 (some .int) 1 := ⟨(mU3 5 rfl rfl), (mU1 9 rfl rfl), by decide +kernel⟩
theorem cavX1_spent : CalV yX1_spent := ⟨(mU3 3 rfl rfl), (mU3 4 rfl rfl)⟩
set_option maxHeartbeats 4000000 in
set_option maxRecDepth 100000 in
theorem kX1_spent_0 {p : Program} {l : Launch} {e : Env} {s : State} {m : MethodId} {args : Array Value} {below : List Frame} {meth : Method} {c : Code} {D : va_G} {cI cZ : ClassId} {a : Nat → Nat} {A : Nat → Prop} {r : Int32} {M' : Mem} (C : Cx p s m args meth c cX1_spent 2 RX1 (some .int) D cI cZ A)  (x1 : Int32) (M : Mem) (H : Heap) (locs : List Loc) (ls : Array Slot) (hf : fX1_spent x1 M = some (r, M')) (hst : St D (wB cI cZ a) A s.heap H locs M) (hl : lv_has ls 2 [(0, .ref (a 23)), (1, .int x1)]) : Wi p l e { frames := 4, cells := 0, slots := 0, locals := 104 } s m args below meth c D (wB cI cZ a) A r M' H locs (F0 m 0 ls []) := by
  unfold fX1_spent at hf
  obtain ⟨hx, hb, hml, hown, hU, hr, hlk, hK, hA⟩ := id C
  refine lv_aload_n hx hb dX1_spent_0 rfl (lv_at hl 0 rfl) ?_
  refine gf_X1_15 C hst dX1_spent_1 ?_
  refine lv_iload_n hx hb dX1_spent_4 rfl (lv_at hl 1 rfl) ?_
  refine lv_aload_n hx hb dX1_spent_5 rfl (lv_at hl 0 rfl) ?_
  refine gf_X1_23 C hst dX1_spent_6 ?_
  refine lv_iload_n hx hb dX1_spent_9 rfl (lv_at hl 1 rfl) ?_
  obtain ⟨h_10, hf⟩ := og hf
  refine w_iald (N := 4) (f := M 25) C hst 25 rfl h_10 dX1_spent_10 ?_
  refine lv_aload_n hx hb dX1_spent_11 rfl (lv_at hl 0 rfl) ?_
  refine gf_X1_26 C hst dX1_spent_12 ?_
  refine lv_iload_n hx hb dX1_spent_15 rfl (lv_at hl 1 rfl) ?_
  refine w_iald (N := 4) (f := M 26) C hst 26 rfl h_10 dX1_spent_16 ?_
  refine lv_aload_n hx hb dX1_spent_17 rfl (lv_at hl 0 rfl) ?_
  refine gf_X1_9 C hst dX1_spent_18 ?_
  obtain ⟨r_21, M_21, hc_21, hf⟩ := obi_some hf
  refine w_cVi (As := []) (rest := [.int (M 26 (Int32.toNatClampNeg x1)), .int (M 25 (Int32.toNatClampNeg x1)), .int x1, .ref (a 22)]) C (wB_ad cI cZ a) (mX3_now l D cI cZ a  M r_21 M_21 hc_21) calX3_now cavX3_now (mU3 6 rfl rfl) hst hl.1 1 3 rfl rfl rfl rfl (Nat.le_of_ble_eq_true rfl) ⟨Nat.le_of_ble_eq_true rfl, Nat.le_of_ble_eq_true rfl⟩ dX1_spent_21 (fun H locs hst => ?_)
  refine lv_iconst (v := 1) hx hb dX1_spent_24 (by decide) ?_
  refine lv_iadd hx hb dX1_spent_25 ?_
  refine va_mmin hx hb (hml.trans hl.1.symm) hown (hU (.methodLink RX1 35 Lib.Math.min.name) (mU3 7 rfl rfl)) (hU (.static Lib.Math.min.name) (mU3 8 rfl rfl)) (hU (.initialized "java/lang/Math") (mU1 11 rfl rfl)) (hU (.code Lib.Math.min.name Lib.Math.min.code 2 (some .int)) (mU3 9 rfl rfl)) (Nat.le_of_ble_eq_true rfl) (Nat.le_of_ble_eq_true rfl) (Nat.zero_le _) (Nat.zero_le _) dX1_spent_26 ?_
  obtain ⟨r_29, M_29, hc_29, hf⟩ := obi_some hf
  refine w_cVi (As := [.int x1, .int (M 25 (Int32.toNatClampNeg x1)), .int (if (r_21 + (1 : Int32)) < (M 26 (Int32.toNatClampNeg x1)) then (r_21 + (1 : Int32)) else (M 26 (Int32.toNatClampNeg x1)))]) (rest := []) C (wB_ad cI cZ a) (mX0_over l D cI cZ a x1 (M 25 (Int32.toNatClampNeg x1)) (if (r_21 + (1 : Int32)) < (M 26 (Int32.toNatClampNeg x1)) then (r_21 + (1 : Int32)) else (M 26 (Int32.toNatClampNeg x1))) M_21 r_29 M_29 hc_29) calX0_over cavX0_over (mU3 10 rfl rfl) hst hl.1 22 0 rfl rfl rfl rfl (Nat.le_of_ble_eq_true rfl) ⟨Nat.le_of_ble_eq_true rfl, Nat.le_of_ble_eq_true rfl⟩ dX1_spent_29 (fun H locs hst => ?_)
  obtain ⟨e1, e2⟩ := sinj hf
  subst e1
  subst e2
  exact w_iret C hst dX1_spent_32
set_option maxRecDepth 100000 in
theorem mX1_spent (l : Launch) (D : va_G) (cI cZ : ClassId) (a : Nat → Nat) (x1 : Int32) (M : Mem) (r : Int32) (M' : Mem) (hf : fX1_spent x1 M = some (r, M')) : MI l D cI cZ (wB cI cZ a) yX1_spent cX1_spent 2 (some .int) 4 104 [.ref (a 23), .int x1] M r M' :=
  MI.of (by decide) (Nat.le_of_ble_eq_true rfl) (fun p e s m args below meth c A C hst ls hl => kX1_spent_0 C x1 M s.heap [] ls hf hst hl)

def gX1_spentUpAt_48 (K10 : Int32 → Int32 → Int32 → Int32 → Mem → Res) (x1 x2 x3 x4 z0 z1 : Int32) (M : Mem) : Res :=
  if x1 < 0 ∨ 4 ≤ Int32.toNatClampNeg x1 then none else (if (z0 + z1) ≤ (M 24 (Int32.toNatClampNeg x1)) then K10 x1 x2 (z0 + z1) (x4 + 1) M else some (x4, M))
def gX1_spentUpAt_10 (K10 : Int32 → Int32 → Int32 → Int32 → Mem → Res) (x1 x2 x3 x4 : Int32) (M : Mem) : Res :=
  if x1 < 0 ∨ 4 ≤ Int32.toNatClampNeg x1 then none else (if (M 26 (Int32.toNatClampNeg x1)) ≤ x4 then some ((-1 : Int32), M) else obi (fX3_now  M) (fun r_28 M_28 => (if r_28 < x4 then gX1_spentUpAt_48 K10 x1 x2 x3 x4 x3 x2 M_28 else obi (fX0_at x1 x4 M_28) (fun r_41 M_41 => gX1_spentUpAt_48 K10 x1 x2 x3 x4 x3 r_41 M_41))))
def lX1_spentUpAt_10 : Nat → Int32 → Int32 → Int32 → Int32 → Mem → Res
  | 0, _, _, _, _, _ => none
  | n + 1, x1, x2, x3, x4, M => gX1_spentUpAt_10 (lX1_spentUpAt_10 n) x1 x2 x3 x4 M
def fX1_spentUpAt (x1 x2 : Int32) (M : Mem) : Res :=
  if x1 < 0 ∨ 4 ≤ Int32.toNatClampNeg x1 then none else lX1_spentUpAt_10  fu x1 x2 (0 : Int32) (M 25 (Int32.toNatClampNeg x1)) M
theorem calX1_spentUpAt : Cal yX1_spentUpAt cX1_spentUpAt 5 (some .int) 2 := ⟨(mU3 30 rfl rfl), (mU1 9 rfl rfl), by decide +kernel⟩
theorem cavX1_spentUpAt : CalV yX1_spentUpAt := ⟨(mU3 28 rfl rfl), (mU3 29 rfl rfl)⟩
set_option maxHeartbeats 4000000 in
set_option maxRecDepth 100000 in
theorem kX1_spentUpAt_48 {p : Program} {l : Launch} {e : Env} {s : State} {m : MethodId} {args : Array Value} {below : List Frame} {meth : Method} {c : Code} {D : va_G} {cI cZ : ClassId} {a : Nat → Nat} {A : Nat → Prop} {r : Int32} {M' : Mem} (C : Cx p s m args meth c cX1_spentUpAt 5 RX1 (some .int) D cI cZ A) (K10 : Int32 → Int32 → Int32 → Int32 → Mem → Res) (hK10 : ∀ (x1 x2 x3 x4 : Int32) (M : Mem) (H : Heap) (locs : List Loc) (ls : Array Slot), K10 x1 x2 x3 x4 M = some (r, M') → St D (wB cI cZ a) A s.heap H locs M → lv_has ls 5 [(0, .ref (a 23)), (1, .int x1), (2, .int x2), (3, .int x3), (4, .int x4)] → Wi p l e { frames := 3, cells := 0, slots := 0, locals := 79 } s m args below meth c D (wB cI cZ a) A r M' H locs (F0 m 10 ls [])) (x1 x2 x3 x4 z0 z1 : Int32) (M : Mem) (H : Heap) (locs : List Loc) (ls : Array Slot) (hf : gX1_spentUpAt_48 K10 x1 x2 x3 x4 z0 z1 M = some (r, M')) (hst : St D (wB cI cZ a) A s.heap H locs M) (hl : lv_has ls 5 [(0, .ref (a 23)), (1, .int x1), (2, .int x2), (3, .int x3), (4, .int x4)]) : Wi p l e { frames := 3, cells := 0, slots := 0, locals := 79 } s m args below meth c D (wB cI cZ a) A r M' H locs (F0 m 48 ls [.int z1, .int z0]) := by
  unfold gX1_spentUpAt_48 at hf
  obtain ⟨hx, hb, hml, hown, hU, hr, hlk, hK, hA⟩ := id C
  refine lv_iadd hx hb dX1_spentUpAt_48 ?_
  refine lv_istore_n (lv' := [(3, .int (z0 + z1)), (0, .ref (a 23)), (1, .int x1), (2, .int x2), (4, .int x4)]) hx hb dX1_spentUpAt_49 rfl hl (by decide) rfl (fun ls hl => ?_)
  refine lv_iload_n hx hb dX1_spentUpAt_50 rfl (lv_at hl 0 rfl) ?_
  refine lv_aload_n hx hb dX1_spentUpAt_51 rfl (lv_at hl 1 rfl) ?_
  refine gf_X1_19 C hst dX1_spentUpAt_52 ?_
  refine lv_iload_n hx hb dX1_spentUpAt_55 rfl (lv_at hl 2 rfl) ?_
  obtain ⟨h_56, hf⟩ := og hf
  refine w_iald (N := 4) (f := M 24) C hst 24 rfl h_56 dX1_spentUpAt_56 ?_
  refine lv_icmp_le (tgt := 63) hx hb dX1_spentUpAt_57 (by decide) (fun c_57 => ?_) (fun c_57 => ?_)
  · have hf := ifp c_57 hf
    refine lv_iinc (v := (x4 + 1)) (lv' := [(4, .int (x4 + 1)), (3, .int (z0 + z1)), (0, .ref (a 23)), (1, .int x1), (2, .int x2)]) hx hb dX1_spentUpAt_63 hl (k := 4) rfl rfl (by decide) rfl (fun ls hl => ?_)
    refine lv_goto (tgt := 10) hx hb dX1_spentUpAt_66 (by decide) ?_
    exact hK10 x1 x2 (z0 + z1) (x4 + 1) M _ _ _ hf hst (lv_sub hl [2, 3, 4, 1, 0] rfl)
  · have hf := ifn c_57 hf
    refine lv_iload hx hb dX1_spentUpAt_60 (lv_at hl 4 rfl) ?_
    obtain ⟨e1, e2⟩ := sinj hf
    subst e1
    subst e2
    exact w_iret C hst dX1_spentUpAt_62
set_option maxHeartbeats 4000000 in
set_option maxRecDepth 100000 in
theorem kX1_spentUpAt_10 {p : Program} {l : Launch} {e : Env} {s : State} {m : MethodId} {args : Array Value} {below : List Frame} {meth : Method} {c : Code} {D : va_G} {cI cZ : ClassId} {a : Nat → Nat} {A : Nat → Prop} {r : Int32} {M' : Mem} (C : Cx p s m args meth c cX1_spentUpAt 5 RX1 (some .int) D cI cZ A) (K10 : Int32 → Int32 → Int32 → Int32 → Mem → Res) (hK10 : ∀ (x1 x2 x3 x4 : Int32) (M : Mem) (H : Heap) (locs : List Loc) (ls : Array Slot), K10 x1 x2 x3 x4 M = some (r, M') → St D (wB cI cZ a) A s.heap H locs M → lv_has ls 5 [(0, .ref (a 23)), (1, .int x1), (2, .int x2), (3, .int x3), (4, .int x4)] → Wi p l e { frames := 3, cells := 0, slots := 0, locals := 79 } s m args below meth c D (wB cI cZ a) A r M' H locs (F0 m 10 ls [])) (x1 x2 x3 x4 : Int32) (M : Mem) (H : Heap) (locs : List Loc) (ls : Array Slot) (hf : gX1_spentUpAt_10 K10 x1 x2 x3 x4 M = some (r, M')) (hst : St D (wB cI cZ a) A s.heap H locs M) (hl : lv_has ls 5 [(0, .ref (a 23)), (1, .int x1), (2, .int x2), (3, .int x3), (4, .int x4)]) : Wi p l e { frames := 3, cells := 0, slots := 0, locals := 79 } s m args below meth c D (wB cI cZ a) A r M' H locs (F0 m 10 ls []) := by
  unfold gX1_spentUpAt_10 at hf
  obtain ⟨hx, hb, hml, hown, hU, hr, hlk, hK, hA⟩ := id C
  refine lv_iload hx hb dX1_spentUpAt_10 (lv_at hl 4 rfl) ?_
  refine lv_aload_n hx hb dX1_spentUpAt_12 rfl (lv_at hl 0 rfl) ?_
  refine gf_X1_26 C hst dX1_spentUpAt_13 ?_
  refine lv_iload_n hx hb dX1_spentUpAt_16 rfl (lv_at hl 1 rfl) ?_
  obtain ⟨h_17, hf⟩ := og hf
  refine w_iald (N := 4) (f := M 26) C hst 26 rfl h_17 dX1_spentUpAt_17 ?_
  refine lv_icmp_ge (tgt := 69) hx hb dX1_spentUpAt_18 (by decide) (fun c_18 => ?_) (fun c_18 => ?_)
  · have hf := ifp c_18 hf
    refine lv_iconst (v := -1) hx hb dX1_spentUpAt_69 (by decide) ?_
    obtain ⟨e1, e2⟩ := sinj hf
    subst e1
    subst e2
    exact w_iret C hst dX1_spentUpAt_70
  · have hf := ifn c_18 hf
    refine lv_iload_n hx hb dX1_spentUpAt_21 rfl (lv_at hl 3 rfl) ?_
    refine lv_iload hx hb dX1_spentUpAt_22 (lv_at hl 4 rfl) ?_
    refine lv_aload_n hx hb dX1_spentUpAt_24 rfl (lv_at hl 0 rfl) ?_
    refine gf_X1_9 C hst dX1_spentUpAt_25 ?_
    obtain ⟨r_28, M_28, hc_28, hf⟩ := obi_some hf
    refine w_cVi (As := []) (rest := [.int x4, .int x3]) C (wB_ad cI cZ a) (mX3_now l D cI cZ a  M r_28 M_28 hc_28) calX3_now cavX3_now (mU3 6 rfl rfl) hst hl.1 1 3 rfl rfl rfl rfl (Nat.le_of_ble_eq_true rfl) ⟨Nat.le_of_ble_eq_true rfl, Nat.le_of_ble_eq_true rfl⟩ dX1_spentUpAt_28 (fun H locs hst => ?_)
    refine lv_icmp_gt (tgt := 47) hx hb dX1_spentUpAt_31 (by decide) (fun c_31 => ?_) (fun c_31 => ?_)
    · have hf := ifp c_31 hf
      refine lv_iload_n hx hb dX1_spentUpAt_47 rfl (lv_at hl 2 rfl) ?_
      exact kX1_spentUpAt_48 C K10 hK10 x1 x2 x3 x4 x3 x2 M_28 _ _ _ hf hst (lv_sub hl [0, 1, 2, 3, 4] rfl)
    · have hf := ifn c_31 hf
      refine lv_aload_n hx hb dX1_spentUpAt_34 rfl (lv_at hl 0 rfl) ?_
      refine gf_X1_15 C hst dX1_spentUpAt_35 ?_
      refine lv_iload_n hx hb dX1_spentUpAt_38 rfl (lv_at hl 1 rfl) ?_
      refine lv_iload hx hb dX1_spentUpAt_39 (lv_at hl 4 rfl) ?_
      obtain ⟨r_41, M_41, hc_41, hf⟩ := obi_some hf
      refine w_cVi (As := [.int x1, .int x4]) (rest := [.int x3]) C (wB_ad cI cZ a) (mX0_at l D cI cZ a x1 x4 M_28 r_41 M_41 hc_41) calX0_at cavX0_at (mU3 31 rfl rfl) hst hl.1 22 0 rfl rfl rfl rfl (Nat.le_of_ble_eq_true rfl) ⟨Nat.le_of_ble_eq_true rfl, Nat.le_of_ble_eq_true rfl⟩ dX1_spentUpAt_41 (fun H locs hst => ?_)
      refine lv_goto (tgt := 48) hx hb dX1_spentUpAt_44 (by decide) ?_
      exact kX1_spentUpAt_48 C K10 hK10 x1 x2 x3 x4 x3 r_41 M_41 _ _ _ hf hst (lv_sub hl [0, 1, 2, 3, 4] rfl)
theorem tX1_spentUpAt_10 {p : Program} {l : Launch} {e : Env} {s : State} {m : MethodId} {args : Array Value} {below : List Frame} {meth : Method} {c : Code} {D : va_G} {cI cZ : ClassId} {a : Nat → Nat} {A : Nat → Prop} {r : Int32} {M' : Mem} (C : Cx p s m args meth c cX1_spentUpAt 5 RX1 (some .int) D cI cZ A)  : ∀ (n : Nat) (x1 x2 x3 x4 : Int32) (M : Mem) (H : Heap) (locs : List Loc) (ls : Array Slot), lX1_spentUpAt_10 n x1 x2 x3 x4 M = some (r, M') → St D (wB cI cZ a) A s.heap H locs M → lv_has ls 5 [(0, .ref (a 23)), (1, .int x1), (2, .int x2), (3, .int x3), (4, .int x4)] → Wi p l e { frames := 3, cells := 0, slots := 0, locals := 79 } s m args below meth c D (wB cI cZ a) A r M' H locs (F0 m 10 ls []) := by
  intro n
  induction n with
  | zero =>
    intro x1 x2 x3 x4 M H locs ls hf
    exact nomatch (show (none : Res) = some (r, M') from hf)
  | succ n ih =>
    intro x1 x2 x3 x4 M H locs ls hf hst hl
    exact kX1_spentUpAt_10 C (lX1_spentUpAt_10 n) ih x1 x2 x3 x4 M H locs ls hf hst hl

set_option maxHeartbeats 4000000 in
set_option maxRecDepth 100000 in
theorem kX1_spentUpAt_0 {p : Program} {l : Launch} {e : Env} {s : State} {m : MethodId} {args : Array Value} {below : List Frame} {meth : Method} {c : Code} {D : va_G} {cI cZ : ClassId} {a : Nat → Nat} {A : Nat → Prop} {r : Int32} {M' : Mem} (C : Cx p s m args meth c cX1_spentUpAt 5 RX1 (some .int) D cI cZ A)  (x1 x2 : Int32) (M : Mem) (H : Heap) (locs : List Loc) (ls : Array Slot) (hf : fX1_spentUpAt x1 x2 M = some (r, M')) (hst : St D (wB cI cZ a) A s.heap H locs M) (hl : lv_has ls 5 [(0, .ref (a 23)), (1, .int x1), (2, .int x2)]) : Wi p l e { frames := 3, cells := 0, slots := 0, locals := 79 } s m args below meth c D (wB cI cZ a) A r M' H locs (F0 m 0 ls []) := by
  unfold fX1_spentUpAt at hf
  obtain ⟨hx, hb, hml, hown, hU, hr, hlk, hK, hA⟩ := id C
  refine lv_iconst (v := 0) hx hb dX1_spentUpAt_0 (by decide) ?_
  refine lv_istore_n (lv' := [(3, .int (0 : Int32)), (0, .ref (a 23)), (1, .int x1), (2, .int x2)]) hx hb dX1_spentUpAt_1 rfl hl (by decide) rfl (fun ls hl => ?_)
  refine lv_aload_n hx hb dX1_spentUpAt_2 rfl (lv_at hl 1 rfl) ?_
  refine gf_X1_23 C hst dX1_spentUpAt_3 ?_
  refine lv_iload_n hx hb dX1_spentUpAt_6 rfl (lv_at hl 2 rfl) ?_
  obtain ⟨h_7, hf⟩ := og hf
  refine w_iald (N := 4) (f := M 25) C hst 25 rfl h_7 dX1_spentUpAt_7 ?_
  refine lv_istore (lv' := [(4, .int (M 25 (Int32.toNatClampNeg x1))), (3, .int (0 : Int32)), (0, .ref (a 23)), (1, .int x1), (2, .int x2)]) hx hb dX1_spentUpAt_8 hl (by decide) rfl (fun ls hl => ?_)
  exact tX1_spentUpAt_10 C  fu x1 x2 (0 : Int32) (M 25 (Int32.toNatClampNeg x1)) M _ _ _ hf hst (lv_sub hl [2, 3, 4, 1, 0] rfl)
set_option maxRecDepth 100000 in
theorem mX1_spentUpAt (l : Launch) (D : va_G) (cI cZ : ClassId) (a : Nat → Nat) (x1 x2 : Int32) (M : Mem) (r : Int32) (M' : Mem) (hf : fX1_spentUpAt x1 x2 M = some (r, M')) : MI l D cI cZ (wB cI cZ a) yX1_spentUpAt cX1_spentUpAt 5 (some .int) 3 79 [.ref (a 23), .int x1, .int x2] M r M' :=
  MI.of (by decide) (Nat.le_of_ble_eq_true rfl) (fun p e s m args below meth c A C hst ls hl => kX1_spentUpAt_0 C x1 x2 M s.heap [] ls hf hst hl)

def fX1_atEnd (x1 x2 : Int32) (M : Mem) : Res :=
  if x1 < 0 ∨ 4 ≤ Int32.toNatClampNeg x1 then none else obi (fX3_now  M) (fun r_10 M_10 => obi (fX1_spent x1 M_10) (fun r_35 M_35 => some ((r_35 + ((if (0 : Int32) < ((M_10 26 (Int32.toNatClampNeg x1)) - (if (M 25 (Int32.toNatClampNeg x1)) < (r_10 + (1 : Int32)) then (r_10 + (1 : Int32)) else (M 25 (Int32.toNatClampNeg x1)))) then ((M_10 26 (Int32.toNatClampNeg x1)) - (if (M 25 (Int32.toNatClampNeg x1)) < (r_10 + (1 : Int32)) then (r_10 + (1 : Int32)) else (M 25 (Int32.toNatClampNeg x1)))) else (0 : Int32)) * x2)), M_35)))
theorem calX1_atEnd : Cal yX1_atEnd cX1_atEnd 5 (some .int) 2 := ⟨(mU3 43 rfl rfl), (mU1 9 rfl rfl), by decide +kernel⟩
theorem cavX1_atEnd : CalV yX1_atEnd := ⟨(mU3 41 rfl rfl), (mU3 42 rfl rfl)⟩
set_option maxHeartbeats 4000000 in
set_option maxRecDepth 100000 in
theorem kX1_atEnd_0 {p : Program} {l : Launch} {e : Env} {s : State} {m : MethodId} {args : Array Value} {below : List Frame} {meth : Method} {c : Code} {D : va_G} {cI cZ : ClassId} {a : Nat → Nat} {A : Nat → Prop} {r : Int32} {M' : Mem} (C : Cx p s m args meth c cX1_atEnd 5 RX1 (some .int) D cI cZ A)  (x1 x2 : Int32) (M : Mem) (H : Heap) (locs : List Loc) (ls : Array Slot) (hf : fX1_atEnd x1 x2 M = some (r, M')) (hst : St D (wB cI cZ a) A s.heap H locs M) (hl : lv_has ls 5 [(0, .ref (a 23)), (1, .int x1), (2, .int x2)]) : Wi p l e { frames := 5, cells := 0, slots := 0, locals := 125 } s m args below meth c D (wB cI cZ a) A r M' H locs (F0 m 0 ls []) := by
  unfold fX1_atEnd at hf
  obtain ⟨hx, hb, hml, hown, hU, hr, hlk, hK, hA⟩ := id C
  refine lv_aload_n hx hb dX1_atEnd_0 rfl (lv_at hl 0 rfl) ?_
  refine gf_X1_23 C hst dX1_atEnd_1 ?_
  refine lv_iload_n hx hb dX1_atEnd_4 rfl (lv_at hl 1 rfl) ?_
  obtain ⟨h_5, hf⟩ := og hf
  refine w_iald (N := 4) (f := M 25) C hst 25 rfl h_5 dX1_atEnd_5 ?_
  refine lv_aload_n hx hb dX1_atEnd_6 rfl (lv_at hl 0 rfl) ?_
  refine gf_X1_9 C hst dX1_atEnd_7 ?_
  obtain ⟨r_10, M_10, hc_10, hf⟩ := obi_some hf
  refine w_cVi (As := []) (rest := [.int (M 25 (Int32.toNatClampNeg x1))]) C (wB_ad cI cZ a) (mX3_now l D cI cZ a  M r_10 M_10 hc_10) calX3_now cavX3_now (mU3 6 rfl rfl) hst hl.1 1 3 rfl rfl rfl rfl (Nat.le_of_ble_eq_true rfl) ⟨Nat.le_of_ble_eq_true rfl, Nat.le_of_ble_eq_true rfl⟩ dX1_atEnd_10 (fun H locs hst => ?_)
  refine lv_iconst (v := 1) hx hb dX1_atEnd_13 (by decide) ?_
  refine lv_iadd hx hb dX1_atEnd_14 ?_
  refine va_mmax hx hb (hml.trans hl.1.symm) hown (hU (.methodLink RX1 50 Lib.Math.max.name) (mU3 44 rfl rfl)) (hU (.static Lib.Math.max.name) (mU3 24 rfl rfl)) (hU (.initialized "java/lang/Math") (mU1 11 rfl rfl)) (hU (.code Lib.Math.max.name Lib.Math.max.code 2 (some .int)) (mU3 25 rfl rfl)) (Nat.le_of_ble_eq_true rfl) (Nat.le_of_ble_eq_true rfl) (Nat.zero_le _) (Nat.zero_le _) dX1_atEnd_15 ?_
  refine lv_istore_n (lv' := [(3, .int (if (M 25 (Int32.toNatClampNeg x1)) < (r_10 + (1 : Int32)) then (r_10 + (1 : Int32)) else (M 25 (Int32.toNatClampNeg x1)))), (0, .ref (a 23)), (1, .int x1), (2, .int x2)]) hx hb dX1_atEnd_18 rfl hl (by decide) rfl (fun ls hl => ?_)
  refine lv_iconst (v := 0) hx hb dX1_atEnd_19 (by decide) ?_
  refine lv_aload_n hx hb dX1_atEnd_20 rfl (lv_at hl 1 rfl) ?_
  refine gf_X1_26 C hst dX1_atEnd_21 ?_
  refine lv_iload_n hx hb dX1_atEnd_24 rfl (lv_at hl 2 rfl) ?_
  refine w_iald (N := 4) (f := M_10 26) C hst 26 rfl h_5 dX1_atEnd_25 ?_
  refine lv_iload_n hx hb dX1_atEnd_26 rfl (lv_at hl 0 rfl) ?_
  refine lv_isub hx hb dX1_atEnd_27 ?_
  refine va_mmax hx hb (hml.trans hl.1.symm) hown (hU (.methodLink RX1 50 Lib.Math.max.name) (mU3 44 rfl rfl)) (hU (.static Lib.Math.max.name) (mU3 24 rfl rfl)) (hU (.initialized "java/lang/Math") (mU1 11 rfl rfl)) (hU (.code Lib.Math.max.name Lib.Math.max.code 2 (some .int)) (mU3 25 rfl rfl)) (Nat.le_of_ble_eq_true rfl) (Nat.le_of_ble_eq_true rfl) (Nat.zero_le _) (Nat.zero_le _) dX1_atEnd_28 ?_
  refine lv_istore (lv' := [(4, .int (if (0 : Int32) < ((M_10 26 (Int32.toNatClampNeg x1)) - (if (M 25 (Int32.toNatClampNeg x1)) < (r_10 + (1 : Int32)) then (r_10 + (1 : Int32)) else (M 25 (Int32.toNatClampNeg x1)))) then ((M_10 26 (Int32.toNatClampNeg x1)) - (if (M 25 (Int32.toNatClampNeg x1)) < (r_10 + (1 : Int32)) then (r_10 + (1 : Int32)) else (M 25 (Int32.toNatClampNeg x1)))) else (0 : Int32))), (3, .int (if (M 25 (Int32.toNatClampNeg x1)) < (r_10 + (1 : Int32)) then (r_10 + (1 : Int32)) else (M 25 (Int32.toNatClampNeg x1)))), (0, .ref (a 23)), (1, .int x1), (2, .int x2)]) hx hb dX1_atEnd_31 hl (by decide) rfl (fun ls hl => ?_)
  refine lv_aload_n hx hb dX1_atEnd_33 rfl (lv_at hl 2 rfl) ?_
  refine lv_iload_n hx hb dX1_atEnd_34 rfl (lv_at hl 3 rfl) ?_
  obtain ⟨r_35, M_35, hc_35, hf⟩ := obi_some hf
  refine w_cVi (As := [.int x1]) (rest := []) C (wB_ad cI cZ a) (mX1_spent l D cI cZ a x1 M_10 r_35 M_35 hc_35) calX1_spent cavX1_spent (mU3 45 rfl rfl) hst hl.1 23 1 rfl rfl rfl rfl (Nat.le_of_ble_eq_true rfl) ⟨Nat.le_of_ble_eq_true rfl, Nat.le_of_ble_eq_true rfl⟩ dX1_atEnd_35 (fun H locs hst => ?_)
  refine lv_iload hx hb dX1_atEnd_38 (lv_at hl 0 rfl) ?_
  refine lv_iload_n hx hb dX1_atEnd_40 rfl (lv_at hl 4 rfl) ?_
  refine lv_imul hx hb dX1_atEnd_41 ?_
  refine lv_iadd hx hb dX1_atEnd_42 ?_
  obtain ⟨e1, e2⟩ := sinj hf
  subst e1
  subst e2
  exact w_iret C hst dX1_atEnd_43
set_option maxRecDepth 100000 in
theorem mX1_atEnd (l : Launch) (D : va_G) (cI cZ : ClassId) (a : Nat → Nat) (x1 x2 : Int32) (M : Mem) (r : Int32) (M' : Mem) (hf : fX1_atEnd x1 x2 M = some (r, M')) : MI l D cI cZ (wB cI cZ a) yX1_atEnd cX1_atEnd 5 (some .int) 5 125 [.ref (a 23), .int x1, .int x2] M r M' :=
  MI.of (by decide) (Nat.le_of_ble_eq_true rfl) (fun p e s m args below meth c A C hst ls hl => kX1_atEnd_0 C x1 x2 M s.heap [] ls hf hst hl)


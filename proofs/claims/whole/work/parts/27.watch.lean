def fX8_isService (x0 : Int32) (M : Mem) : Res :=
  (if x0 < 0 then some ((0 : Int32), M) else (if (6 : Int32) ≤ x0 then some ((0 : Int32), M) else some ((1 : Int32), M)))
theorem calX8_isService : Cal yX8_isService cX8_isService 1 (some .boolean) 1 := ⟨(mU1 203 rfl rfl), (mU1 1 rfl rfl), by decide +kernel⟩
theorem casX8_isService : Cond.static yX8_isService ∈ UU := (mU1 202 rfl rfl)
set_option maxHeartbeats 4000000 in
set_option maxRecDepth 100000 in
theorem kX8_isService_0 {p : Program} {l : Launch} {e : Env} {s : State} {m : MethodId} {args : Array Value} {below : List Frame} {meth : Method} {c : Code} {D : va_G} {cI cZ : ClassId} {a : Nat → Nat} {A : Nat → Prop} {r : Int32} {M' : Mem} (C : Cx p s m args meth c cX8_isService 1 RX8 (some .boolean) D cI cZ A)  (x0 : Int32) (M : Mem) (H : Heap) (locs : List Loc) (ls : Array Slot) (hf : fX8_isService x0 M = some (r, M')) (hst : St D (wB cI cZ a) A s.heap H locs M) (hl : lv_has ls 1 [(0, .int x0)]) : Wi p l e { frames := 0, cells := 0, slots := 0, locals := 0 } s m args below meth c D (wB cI cZ a) A r M' H locs (F0 m 0 ls []) := by
  unfold fX8_isService at hf
  obtain ⟨hx, hb, hml, hown, hU, hr, hlk, hK, hA⟩ := id C
  refine lv_iload_n hx hb dX8_isService_0 rfl (lv_at hl 0 rfl) ?_
  refine lv_if_lt (tgt := 14) hx hb dX8_isService_1 (by decide) (fun c_1 => ?_) (fun c_1 => ?_)
  · have hf := ifp c_1 hf
    refine lv_iconst (v := 0) hx hb dX8_isService_14 (by decide) ?_
    obtain ⟨e1, e2⟩ := sinj hf
    subst e1
    subst e2
    exact w_zret C rfl hst dX8_isService_15
  · have hf := ifn c_1 hf
    refine lv_iload_n hx hb dX8_isService_4 rfl (lv_at hl 0 rfl) ?_
    refine lv_bipush (v := 6) hx hb dX8_isService_5 (by decide) ?_
    refine lv_icmp_ge (tgt := 14) hx hb dX8_isService_7 (by decide) (fun c_7 => ?_) (fun c_7 => ?_)
    · have hf := ifp c_7 hf
      refine lv_iconst (v := 0) hx hb dX8_isService_14 (by decide) ?_
      obtain ⟨e1, e2⟩ := sinj hf
      subst e1
      subst e2
      exact w_zret C rfl hst dX8_isService_15
    · have hf := ifn c_7 hf
      refine lv_iconst (v := 1) hx hb dX8_isService_10 (by decide) ?_
      refine lv_goto (tgt := 15) hx hb dX8_isService_11 (by decide) ?_
      obtain ⟨e1, e2⟩ := sinj hf
      subst e1
      subst e2
      exact w_zret C rfl hst dX8_isService_15
set_option maxRecDepth 100000 in
theorem mX8_isService (l : Launch) (D : va_G) (cI cZ : ClassId) (a : Nat → Nat) (x0 : Int32) (M : Mem) (r : Int32) (M' : Mem) (hf : fX8_isService x0 M = some (r, M')) : MI l D cI cZ (wB cI cZ a) yX8_isService cX8_isService 1 (some .boolean) 0 0 [.int x0] M r M' :=
  MI.of (by decide) (Nat.le_of_ble_eq_true rfl) (fun p e s m args below meth c A C hst ls hl => kX8_isService_0 C x0 M s.heap [] ls hf hst hl)

def fX8_isOwner (x0 : Int32) (M : Mem) : Res :=
  (if x0 < 0 then some ((0 : Int32), M) else (if (4 : Int32) ≤ x0 then some ((0 : Int32), M) else some ((1 : Int32), M)))
theorem calX8_isOwner : Cal yX8_isOwner cX8_isOwner 1 (some .boolean) 1 := ⟨(mU1 206 rfl rfl), (mU1 1 rfl rfl), by decide +kernel⟩
theorem casX8_isOwner : Cond.static yX8_isOwner ∈ UU := (mU1 205 rfl rfl)
set_option maxHeartbeats 4000000 in
set_option maxRecDepth 100000 in
theorem kX8_isOwner_0 {p : Program} {l : Launch} {e : Env} {s : State} {m : MethodId} {args : Array Value} {below : List Frame} {meth : Method} {c : Code} {D : va_G} {cI cZ : ClassId} {a : Nat → Nat} {A : Nat → Prop} {r : Int32} {M' : Mem} (C : Cx p s m args meth c cX8_isOwner 1 RX8 (some .boolean) D cI cZ A)  (x0 : Int32) (M : Mem) (H : Heap) (locs : List Loc) (ls : Array Slot) (hf : fX8_isOwner x0 M = some (r, M')) (hst : St D (wB cI cZ a) A s.heap H locs M) (hl : lv_has ls 1 [(0, .int x0)]) : Wi p l e { frames := 0, cells := 0, slots := 0, locals := 0 } s m args below meth c D (wB cI cZ a) A r M' H locs (F0 m 0 ls []) := by
  unfold fX8_isOwner at hf
  obtain ⟨hx, hb, hml, hown, hU, hr, hlk, hK, hA⟩ := id C
  refine lv_iload_n hx hb dX8_isOwner_0 rfl (lv_at hl 0 rfl) ?_
  refine lv_if_lt (tgt := 13) hx hb dX8_isOwner_1 (by decide) (fun c_1 => ?_) (fun c_1 => ?_)
  · have hf := ifp c_1 hf
    refine lv_iconst (v := 0) hx hb dX8_isOwner_13 (by decide) ?_
    obtain ⟨e1, e2⟩ := sinj hf
    subst e1
    subst e2
    exact w_zret C rfl hst dX8_isOwner_14
  · have hf := ifn c_1 hf
    refine lv_iload_n hx hb dX8_isOwner_4 rfl (lv_at hl 0 rfl) ?_
    refine lv_iconst (v := 4) hx hb dX8_isOwner_5 (by decide) ?_
    refine lv_icmp_ge (tgt := 13) hx hb dX8_isOwner_6 (by decide) (fun c_6 => ?_) (fun c_6 => ?_)
    · have hf := ifp c_6 hf
      refine lv_iconst (v := 0) hx hb dX8_isOwner_13 (by decide) ?_
      obtain ⟨e1, e2⟩ := sinj hf
      subst e1
      subst e2
      exact w_zret C rfl hst dX8_isOwner_14
    · have hf := ifn c_6 hf
      refine lv_iconst (v := 1) hx hb dX8_isOwner_9 (by decide) ?_
      refine lv_goto (tgt := 14) hx hb dX8_isOwner_10 (by decide) ?_
      obtain ⟨e1, e2⟩ := sinj hf
      subst e1
      subst e2
      exact w_zret C rfl hst dX8_isOwner_14
set_option maxRecDepth 100000 in
theorem mX8_isOwner (l : Launch) (D : va_G) (cI cZ : ClassId) (a : Nat → Nat) (x0 : Int32) (M : Mem) (r : Int32) (M' : Mem) (hf : fX8_isOwner x0 M = some (r, M')) : MI l D cI cZ (wB cI cZ a) yX8_isOwner cX8_isOwner 1 (some .boolean) 0 0 [.int x0] M r M' :=
  MI.of (by decide) (Nat.le_of_ble_eq_true rfl) (fun p e s m args below meth c A C hst ls hl => kX8_isOwner_0 C x0 M s.heap [] ls hf hst hl)

def fX8_owner (x1 x2 : Int32) (M : Mem) : Res :=
  obi (fX8_isService x1 M) (fun r_1 M_1 => (if r_1 = 0 then some ((0 : Int32), M_1) else obi (fX8_isOwner x2 M_1) (fun r_8 M_8 => (if r_8 = 0 then some ((0 : Int32), M_8) else obi (fX6_giveTo x1 x2 M_8) (fun r_22 M_22 => some ((1 : Int32), M_22))))))
theorem calX8_owner : Cal yX8_owner cX8_owner 3 (some .boolean) 2 := ⟨(mU1 200 rfl rfl), (mU1 1 rfl rfl), by decide +kernel⟩
theorem cavX8_owner : CalV yX8_owner := ⟨(mU1 198 rfl rfl), (mU1 199 rfl rfl)⟩
set_option maxHeartbeats 4000000 in
set_option maxRecDepth 100000 in
theorem kX8_owner_0 {p : Program} {l : Launch} {e : Env} {s : State} {m : MethodId} {args : Array Value} {below : List Frame} {meth : Method} {c : Code} {D : va_G} {cI cZ : ClassId} {a : Nat → Nat} {A : Nat → Prop} {r : Int32} {M' : Mem} (C : Cx p s m args meth c cX8_owner 3 RX8 (some .boolean) D cI cZ A)  (x1 x2 : Int32) (M : Mem) (H : Heap) (locs : List Loc) (ls : Array Slot) (hf : fX8_owner x1 x2 M = some (r, M')) (hst : St D (wB cI cZ a) A s.heap H locs M) (hl : lv_has ls 3 [(0, .ref (a 0)), (1, .int x1), (2, .int x2)]) : Wi p l e { frames := 1, cells := 0, slots := 0, locals := 23 } s m args below meth c D (wB cI cZ a) A r M' H locs (F0 m 0 ls []) := by
  unfold fX8_owner at hf
  obtain ⟨hx, hb, hml, hown, hU, hr, hlk, hK, hA⟩ := id C
  refine lv_iload_n hx hb dX8_owner_0 rfl (lv_at hl 1 rfl) ?_
  obtain ⟨r_1, M_1, hc_1, hf⟩ := obi_some hf
  refine w_cSi (As := [.int x1]) (rest := []) C (wB_ad cI cZ a) (mX8_isService l D cI cZ a x1 M r_1 M_1 hc_1) calX8_isService casX8_isService (mU1 201 rfl rfl) hst hl.1 rfl rfl (Nat.le_of_ble_eq_true rfl) ⟨Nat.le_of_ble_eq_true rfl, Nat.le_of_ble_eq_true rfl⟩ dX8_owner_1 (fun H locs hst => ?_)
  refine lv_if_eq (tgt := 14) hx hb dX8_owner_4 (by decide) (fun c_4 => ?_) (fun c_4 => ?_)
  · have hf := ifp c_4 hf
    refine lv_iconst (v := 0) hx hb dX8_owner_14 (by decide) ?_
    obtain ⟨e1, e2⟩ := sinj hf
    subst e1
    subst e2
    exact w_zret C rfl hst dX8_owner_15
  · have hf := ifn c_4 hf
    refine lv_iload_n hx hb dX8_owner_7 rfl (lv_at hl 2 rfl) ?_
    obtain ⟨r_8, M_8, hc_8, hf⟩ := obi_some hf
    refine w_cSi (As := [.int x2]) (rest := []) C (wB_ad cI cZ a) (mX8_isOwner l D cI cZ a x2 M_1 r_8 M_8 hc_8) calX8_isOwner casX8_isOwner (mU1 204 rfl rfl) hst hl.1 rfl rfl (Nat.le_of_ble_eq_true rfl) ⟨Nat.le_of_ble_eq_true rfl, Nat.le_of_ble_eq_true rfl⟩ dX8_owner_8 (fun H locs hst => ?_)
    refine lv_if_ne (tgt := 16) hx hb dX8_owner_11 (by decide) (fun c_11 => ?_) (fun c_11 => ?_)
    · have hf := ifn c_11 hf
      refine lv_aload_n hx hb dX8_owner_16 rfl (lv_at hl 0 rfl) ?_
      refine gf_X8_49 C hst dX8_owner_17 ?_
      refine lv_iload_n hx hb dX8_owner_20 rfl (lv_at hl 1 rfl) ?_
      refine lv_iload_n hx hb dX8_owner_21 rfl (lv_at hl 2 rfl) ?_
      obtain ⟨r_22, M_22, hc_22, hf⟩ := obi_some hf
      refine w_cVv (As := [.int x1, .int x2]) (rest := []) C (wB_ad cI cZ a) (mX6_giveTo l D cI cZ a x1 x2 M_8 r_22 M_22 hc_22) calX6_giveTo cavX6_giveTo (mU1 207 rfl rfl) hst hl.1 20 6 rfl rfl rfl rfl (Nat.le_of_ble_eq_true rfl) ⟨Nat.le_of_ble_eq_true rfl, Nat.le_of_ble_eq_true rfl⟩ dX8_owner_22 (fun H locs hst => ?_)
      refine lv_iconst (v := 1) hx hb dX8_owner_25 (by decide) ?_
      obtain ⟨e1, e2⟩ := sinj hf
      subst e1
      subst e2
      exact w_zret C rfl hst dX8_owner_26
    · have hf := ifp c_11 hf
      refine lv_iconst (v := 0) hx hb dX8_owner_14 (by decide) ?_
      obtain ⟨e1, e2⟩ := sinj hf
      subst e1
      subst e2
      exact w_zret C rfl hst dX8_owner_15
set_option maxRecDepth 100000 in
theorem mX8_owner (l : Launch) (D : va_G) (cI cZ : ClassId) (a : Nat → Nat) (x1 x2 : Int32) (M : Mem) (r : Int32) (M' : Mem) (hf : fX8_owner x1 x2 M = some (r, M')) : MI l D cI cZ (wB cI cZ a) yX8_owner cX8_owner 3 (some .boolean) 1 23 [.ref (a 0), .int x1, .int x2] M r M' :=
  MI.of (by decide) (Nat.le_of_ble_eq_true rfl) (fun p e s m args below meth c A C hst ls hl => kX8_owner_0 C x1 x2 M s.heap [] ls hf hst hl)

def fX8_isShare (x0 : Int32) (M : Mem) : Res :=
  (if x0 < 0 then some ((0 : Int32), M) else (if (9 : Int32) < x0 then some ((0 : Int32), M) else some ((1 : Int32), M)))
theorem calX8_isShare : Cal yX8_isShare cX8_isShare 1 (some .boolean) 1 := ⟨(mU1 217 rfl rfl), (mU1 1 rfl rfl), by decide +kernel⟩
theorem casX8_isShare : Cond.static yX8_isShare ∈ UU := (mU1 216 rfl rfl)
set_option maxHeartbeats 4000000 in
set_option maxRecDepth 100000 in
theorem kX8_isShare_0 {p : Program} {l : Launch} {e : Env} {s : State} {m : MethodId} {args : Array Value} {below : List Frame} {meth : Method} {c : Code} {D : va_G} {cI cZ : ClassId} {a : Nat → Nat} {A : Nat → Prop} {r : Int32} {M' : Mem} (C : Cx p s m args meth c cX8_isShare 1 RX8 (some .boolean) D cI cZ A)  (x0 : Int32) (M : Mem) (H : Heap) (locs : List Loc) (ls : Array Slot) (hf : fX8_isShare x0 M = some (r, M')) (hst : St D (wB cI cZ a) A s.heap H locs M) (hl : lv_has ls 1 [(0, .int x0)]) : Wi p l e { frames := 0, cells := 0, slots := 0, locals := 0 } s m args below meth c D (wB cI cZ a) A r M' H locs (F0 m 0 ls []) := by
  unfold fX8_isShare at hf
  obtain ⟨hx, hb, hml, hown, hU, hr, hlk, hK, hA⟩ := id C
  refine lv_iload_n hx hb dX8_isShare_0 rfl (lv_at hl 0 rfl) ?_
  refine lv_if_lt (tgt := 14) hx hb dX8_isShare_1 (by decide) (fun c_1 => ?_) (fun c_1 => ?_)
  · have hf := ifp c_1 hf
    refine lv_iconst (v := 0) hx hb dX8_isShare_14 (by decide) ?_
    obtain ⟨e1, e2⟩ := sinj hf
    subst e1
    subst e2
    exact w_zret C rfl hst dX8_isShare_15
  · have hf := ifn c_1 hf
    refine lv_iload_n hx hb dX8_isShare_4 rfl (lv_at hl 0 rfl) ?_
    refine lv_bipush (v := 9) hx hb dX8_isShare_5 (by decide) ?_
    refine lv_icmp_gt (tgt := 14) hx hb dX8_isShare_7 (by decide) (fun c_7 => ?_) (fun c_7 => ?_)
    · have hf := ifp c_7 hf
      refine lv_iconst (v := 0) hx hb dX8_isShare_14 (by decide) ?_
      obtain ⟨e1, e2⟩ := sinj hf
      subst e1
      subst e2
      exact w_zret C rfl hst dX8_isShare_15
    · have hf := ifn c_7 hf
      refine lv_iconst (v := 1) hx hb dX8_isShare_10 (by decide) ?_
      refine lv_goto (tgt := 15) hx hb dX8_isShare_11 (by decide) ?_
      obtain ⟨e1, e2⟩ := sinj hf
      subst e1
      subst e2
      exact w_zret C rfl hst dX8_isShare_15
set_option maxRecDepth 100000 in
theorem mX8_isShare (l : Launch) (D : va_G) (cI cZ : ClassId) (a : Nat → Nat) (x0 : Int32) (M : Mem) (r : Int32) (M' : Mem) (hf : fX8_isShare x0 M = some (r, M')) : MI l D cI cZ (wB cI cZ a) yX8_isShare cX8_isShare 1 (some .boolean) 0 0 [.int x0] M r M' :=
  MI.of (by decide) (Nat.le_of_ble_eq_true rfl) (fun p e s m args below meth c A C hst ls hl => kX8_isShare_0 C x0 M s.heap [] ls hf hst hl)

def fX8_share (x1 x2 x3 x4 x5 : Int32) (M : Mem) : Res :=
  obi (fX8_isService x1 M) (fun r_1 M_1 => (if r_1 = 0 then some ((0 : Int32), M_1) else obi (fX8_isShare x2 M_1) (fun r_8 M_8 => (if r_8 = 0 then some ((0 : Int32), M_8) else obi (fX8_isShare x3 M_8) (fun r_15 M_15 => (if r_15 = 0 then some ((0 : Int32), M_15) else obi (fX8_isShare x4 M_15) (fun r_23 M_23 => (if r_23 = 0 then some ((0 : Int32), M_23) else obi (fX8_isShare x5 M_23) (fun r_31 M_31 => (if r_31 = 0 then some ((0 : Int32), M_31) else (if (((x2 + x3) + x4) + x5) = 0 then some ((0 : Int32), M_31) else obi (fX6_split x1 x2 x3 x4 x5 M_31) (fun r_64 M_64 => some ((1 : Int32), M_64)))))))))))))
theorem calX8_share : Cal yX8_share cX8_share 6 (some .boolean) 5 := ⟨(mU1 214 rfl rfl), (mU1 1 rfl rfl), by decide +kernel⟩
theorem cavX8_share : CalV yX8_share := ⟨(mU1 212 rfl rfl), (mU1 213 rfl rfl)⟩
set_option maxHeartbeats 4000000 in
set_option maxRecDepth 100000 in
theorem kX8_share_0 {p : Program} {l : Launch} {e : Env} {s : State} {m : MethodId} {args : Array Value} {below : List Frame} {meth : Method} {c : Code} {D : va_G} {cI cZ : ClassId} {a : Nat → Nat} {A : Nat → Prop} {r : Int32} {M' : Mem} (C : Cx p s m args meth c cX8_share 6 RX8 (some .boolean) D cI cZ A)  (x1 x2 x3 x4 x5 : Int32) (M : Mem) (H : Heap) (locs : List Loc) (ls : Array Slot) (hf : fX8_share x1 x2 x3 x4 x5 M = some (r, M')) (hst : St D (wB cI cZ a) A s.heap H locs M) (hl : lv_has ls 6 [(0, .ref (a 0)), (1, .int x1), (2, .int x2), (3, .int x3), (4, .int x4), (5, .int x5)]) : Wi p l e { frames := 1, cells := 0, slots := 0, locals := 25 } s m args below meth c D (wB cI cZ a) A r M' H locs (F0 m 0 ls []) := by
  unfold fX8_share at hf
  obtain ⟨hx, hb, hml, hown, hU, hr, hlk, hK, hA⟩ := id C
  refine lv_iload_n hx hb dX8_share_0 rfl (lv_at hl 1 rfl) ?_
  obtain ⟨r_1, M_1, hc_1, hf⟩ := obi_some hf
  refine w_cSi (As := [.int x1]) (rest := []) C (wB_ad cI cZ a) (mX8_isService l D cI cZ a x1 M r_1 M_1 hc_1) calX8_isService casX8_isService (mU1 201 rfl rfl) hst hl.1 rfl rfl (Nat.le_of_ble_eq_true rfl) ⟨Nat.le_of_ble_eq_true rfl, Nat.le_of_ble_eq_true rfl⟩ dX8_share_1 (fun H locs hst => ?_)
  refine lv_if_eq (tgt := 37) hx hb dX8_share_4 (by decide) (fun c_4 => ?_) (fun c_4 => ?_)
  · have hf := ifp c_4 hf
    refine lv_iconst (v := 0) hx hb dX8_share_37 (by decide) ?_
    obtain ⟨e1, e2⟩ := sinj hf
    subst e1
    subst e2
    exact w_zret C rfl hst dX8_share_38
  · have hf := ifn c_4 hf
    refine lv_iload_n hx hb dX8_share_7 rfl (lv_at hl 2 rfl) ?_
    obtain ⟨r_8, M_8, hc_8, hf⟩ := obi_some hf
    refine w_cSi (As := [.int x2]) (rest := []) C (wB_ad cI cZ a) (mX8_isShare l D cI cZ a x2 M_1 r_8 M_8 hc_8) calX8_isShare casX8_isShare (mU1 215 rfl rfl) hst hl.1 rfl rfl (Nat.le_of_ble_eq_true rfl) ⟨Nat.le_of_ble_eq_true rfl, Nat.le_of_ble_eq_true rfl⟩ dX8_share_8 (fun H locs hst => ?_)
    refine lv_if_eq (tgt := 37) hx hb dX8_share_11 (by decide) (fun c_11 => ?_) (fun c_11 => ?_)
    · have hf := ifp c_11 hf
      refine lv_iconst (v := 0) hx hb dX8_share_37 (by decide) ?_
      obtain ⟨e1, e2⟩ := sinj hf
      subst e1
      subst e2
      exact w_zret C rfl hst dX8_share_38
    · have hf := ifn c_11 hf
      refine lv_iload_n hx hb dX8_share_14 rfl (lv_at hl 3 rfl) ?_
      obtain ⟨r_15, M_15, hc_15, hf⟩ := obi_some hf
      refine w_cSi (As := [.int x3]) (rest := []) C (wB_ad cI cZ a) (mX8_isShare l D cI cZ a x3 M_8 r_15 M_15 hc_15) calX8_isShare casX8_isShare (mU1 215 rfl rfl) hst hl.1 rfl rfl (Nat.le_of_ble_eq_true rfl) ⟨Nat.le_of_ble_eq_true rfl, Nat.le_of_ble_eq_true rfl⟩ dX8_share_15 (fun H locs hst => ?_)
      refine lv_if_eq (tgt := 37) hx hb dX8_share_18 (by decide) (fun c_18 => ?_) (fun c_18 => ?_)
      · have hf := ifp c_18 hf
        refine lv_iconst (v := 0) hx hb dX8_share_37 (by decide) ?_
        obtain ⟨e1, e2⟩ := sinj hf
        subst e1
        subst e2
        exact w_zret C rfl hst dX8_share_38
      · have hf := ifn c_18 hf
        refine lv_iload hx hb dX8_share_21 (lv_at hl 4 rfl) ?_
        obtain ⟨r_23, M_23, hc_23, hf⟩ := obi_some hf
        refine w_cSi (As := [.int x4]) (rest := []) C (wB_ad cI cZ a) (mX8_isShare l D cI cZ a x4 M_15 r_23 M_23 hc_23) calX8_isShare casX8_isShare (mU1 215 rfl rfl) hst hl.1 rfl rfl (Nat.le_of_ble_eq_true rfl) ⟨Nat.le_of_ble_eq_true rfl, Nat.le_of_ble_eq_true rfl⟩ dX8_share_23 (fun H locs hst => ?_)
        refine lv_if_eq (tgt := 37) hx hb dX8_share_26 (by decide) (fun c_26 => ?_) (fun c_26 => ?_)
        · have hf := ifp c_26 hf
          refine lv_iconst (v := 0) hx hb dX8_share_37 (by decide) ?_
          obtain ⟨e1, e2⟩ := sinj hf
          subst e1
          subst e2
          exact w_zret C rfl hst dX8_share_38
        · have hf := ifn c_26 hf
          refine lv_iload hx hb dX8_share_29 (lv_at hl 5 rfl) ?_
          obtain ⟨r_31, M_31, hc_31, hf⟩ := obi_some hf
          refine w_cSi (As := [.int x5]) (rest := []) C (wB_ad cI cZ a) (mX8_isShare l D cI cZ a x5 M_23 r_31 M_31 hc_31) calX8_isShare casX8_isShare (mU1 215 rfl rfl) hst hl.1 rfl rfl (Nat.le_of_ble_eq_true rfl) ⟨Nat.le_of_ble_eq_true rfl, Nat.le_of_ble_eq_true rfl⟩ dX8_share_31 (fun H locs hst => ?_)
          refine lv_if_ne (tgt := 39) hx hb dX8_share_34 (by decide) (fun c_34 => ?_) (fun c_34 => ?_)
          · have hf := ifn c_34 hf
            refine lv_iload_n hx hb dX8_share_39 rfl (lv_at hl 2 rfl) ?_
            refine lv_iload_n hx hb dX8_share_40 rfl (lv_at hl 3 rfl) ?_
            refine lv_iadd hx hb dX8_share_41 ?_
            refine lv_iload hx hb dX8_share_42 (lv_at hl 4 rfl) ?_
            refine lv_iadd hx hb dX8_share_44 ?_
            refine lv_iload hx hb dX8_share_45 (lv_at hl 5 rfl) ?_
            refine lv_iadd hx hb dX8_share_47 ?_
            refine lv_if_ne (tgt := 53) hx hb dX8_share_48 (by decide) (fun c_48 => ?_) (fun c_48 => ?_)
            · have hf := ifn c_48 hf
              refine lv_aload_n hx hb dX8_share_53 rfl (lv_at hl 0 rfl) ?_
              refine gf_X8_49 C hst dX8_share_54 ?_
              refine lv_iload_n hx hb dX8_share_57 rfl (lv_at hl 1 rfl) ?_
              refine lv_iload_n hx hb dX8_share_58 rfl (lv_at hl 2 rfl) ?_
              refine lv_iload_n hx hb dX8_share_59 rfl (lv_at hl 3 rfl) ?_
              refine lv_iload hx hb dX8_share_60 (lv_at hl 4 rfl) ?_
              refine lv_iload hx hb dX8_share_62 (lv_at hl 5 rfl) ?_
              obtain ⟨r_64, M_64, hc_64, hf⟩ := obi_some hf
              refine w_cVv (As := [.int x1, .int x2, .int x3, .int x4, .int x5]) (rest := []) C (wB_ad cI cZ a) (mX6_split l D cI cZ a x1 x2 x3 x4 x5 M_31 r_64 M_64 hc_64) calX6_split cavX6_split (mU1 218 rfl rfl) hst hl.1 20 6 rfl rfl rfl rfl (Nat.le_of_ble_eq_true rfl) ⟨Nat.le_of_ble_eq_true rfl, Nat.le_of_ble_eq_true rfl⟩ dX8_share_64 (fun H locs hst => ?_)
              refine lv_iconst (v := 1) hx hb dX8_share_67 (by decide) ?_
              obtain ⟨e1, e2⟩ := sinj hf
              subst e1
              subst e2
              exact w_zret C rfl hst dX8_share_68
            · have hf := ifp c_48 hf
              refine lv_iconst (v := 0) hx hb dX8_share_51 (by decide) ?_
              obtain ⟨e1, e2⟩ := sinj hf
              subst e1
              subst e2
              exact w_zret C rfl hst dX8_share_52
          · have hf := ifp c_34 hf
            refine lv_iconst (v := 0) hx hb dX8_share_37 (by decide) ?_
            obtain ⟨e1, e2⟩ := sinj hf
            subst e1
            subst e2
            exact w_zret C rfl hst dX8_share_38
set_option maxRecDepth 100000 in
theorem mX8_share (l : Launch) (D : va_G) (cI cZ : ClassId) (a : Nat → Nat) (x1 x2 x3 x4 x5 : Int32) (M : Mem) (r : Int32) (M' : Mem) (hf : fX8_share x1 x2 x3 x4 x5 M = some (r, M')) : MI l D cI cZ (wB cI cZ a) yX8_share cX8_share 6 (some .boolean) 1 25 [.ref (a 0), .int x1, .int x2, .int x3, .int x4, .int x5] M r M' :=
  MI.of (by decide) (Nat.le_of_ble_eq_true rfl) (fun p e s m args below meth c A C hst ls hl => kX8_share_0 C x1 x2 x3 x4 x5 M s.heap [] ls hf hst hl)

def fX8_begin (x1 x2 : Int32) (M : Mem) : Res :=
  obi (fX8_isService x1 M) (fun r_1 M_1 => (if r_1 = 0 then some ((-1 : Int32), M_1) else (if x2 < (1 : Int32) then some ((-1 : Int32), M_1) else (if (999 : Int32) < x2 then some ((-1 : Int32), M_1) else obi (fX4_isFull  M_1) (fun r_23 M_23 => (if r_23 = 0 then obi (fX3_addPrice x1 x2 M_23) (fun r_37 M_37 => obi (fX3_now  M_37) (fun r_50 M_50 => obi (fX4_add x1 x2 r_50 M_50) (fun r_53 M_53 => some (r_53, M_53)))) else some ((-1 : Int32), M_23)))))))
theorem calX8_begin : Cal yX8_begin cX8_begin 3 (some .int) 2 := ⟨(mU1 225 rfl rfl), (mU1 1 rfl rfl), by decide +kernel⟩
theorem cavX8_begin : CalV yX8_begin := ⟨(mU1 223 rfl rfl), (mU1 224 rfl rfl)⟩
set_option maxHeartbeats 4000000 in
set_option maxRecDepth 100000 in
theorem kX8_begin_0 {p : Program} {l : Launch} {e : Env} {s : State} {m : MethodId} {args : Array Value} {below : List Frame} {meth : Method} {c : Code} {D : va_G} {cI cZ : ClassId} {a : Nat → Nat} {A : Nat → Prop} {r : Int32} {M' : Mem} (C : Cx p s m args meth c cX8_begin 3 RX8 (some .int) D cI cZ A)  (x1 x2 : Int32) (M : Mem) (H : Heap) (locs : List Loc) (ls : Array Slot) (hf : fX8_begin x1 x2 M = some (r, M')) (hst : St D (wB cI cZ a) A s.heap H locs M) (hl : lv_has ls 3 [(0, .ref (a 0)), (1, .int x1), (2, .int x2)]) : Wi p l e { frames := 1, cells := 0, slots := 0, locals := 24 } s m args below meth c D (wB cI cZ a) A r M' H locs (F0 m 0 ls []) := by
  unfold fX8_begin at hf
  obtain ⟨hx, hb, hml, hown, hU, hr, hlk, hK, hA⟩ := id C
  refine lv_iload_n hx hb dX8_begin_0 rfl (lv_at hl 1 rfl) ?_
  obtain ⟨r_1, M_1, hc_1, hf⟩ := obi_some hf
  refine w_cSi (As := [.int x1]) (rest := []) C (wB_ad cI cZ a) (mX8_isService l D cI cZ a x1 M r_1 M_1 hc_1) calX8_isService casX8_isService (mU1 201 rfl rfl) hst hl.1 rfl rfl (Nat.le_of_ble_eq_true rfl) ⟨Nat.le_of_ble_eq_true rfl, Nat.le_of_ble_eq_true rfl⟩ dX8_begin_1 (fun H locs hst => ?_)
  refine lv_if_eq (tgt := 29) hx hb dX8_begin_4 (by decide) (fun c_4 => ?_) (fun c_4 => ?_)
  · have hf := ifp c_4 hf
    refine lv_iconst (v := -1) hx hb dX8_begin_29 (by decide) ?_
    obtain ⟨e1, e2⟩ := sinj hf
    subst e1
    subst e2
    exact w_iret C hst dX8_begin_30
  · have hf := ifn c_4 hf
    refine lv_iload_n hx hb dX8_begin_7 rfl (lv_at hl 2 rfl) ?_
    refine lv_iconst (v := 1) hx hb dX8_begin_8 (by decide) ?_
    refine lv_icmp_lt (tgt := 29) hx hb dX8_begin_9 (by decide) (fun c_9 => ?_) (fun c_9 => ?_)
    · have hf := ifp c_9 hf
      refine lv_iconst (v := -1) hx hb dX8_begin_29 (by decide) ?_
      obtain ⟨e1, e2⟩ := sinj hf
      subst e1
      subst e2
      exact w_iret C hst dX8_begin_30
    · have hf := ifn c_9 hf
      refine lv_iload_n hx hb dX8_begin_12 rfl (lv_at hl 2 rfl) ?_
      refine lv_sipush (v := 999) hx hb dX8_begin_13 (by decide) ?_
      refine lv_icmp_gt (tgt := 29) hx hb dX8_begin_16 (by decide) (fun c_16 => ?_) (fun c_16 => ?_)
      · have hf := ifp c_16 hf
        refine lv_iconst (v := -1) hx hb dX8_begin_29 (by decide) ?_
        obtain ⟨e1, e2⟩ := sinj hf
        subst e1
        subst e2
        exact w_iret C hst dX8_begin_30
      · have hf := ifn c_16 hf
        refine lv_aload_n hx hb dX8_begin_19 rfl (lv_at hl 0 rfl) ?_
        refine gf_X8_19 C hst dX8_begin_20 ?_
        obtain ⟨r_23, M_23, hc_23, hf⟩ := obi_some hf
        refine w_cVi (As := []) (rest := []) C (wB_ad cI cZ a) (mX4_isFull l D cI cZ a  M_1 r_23 M_23 hc_23) calX4_isFull cavX4_isFull (mU1 226 rfl rfl) hst hl.1 5 4 rfl rfl rfl rfl (Nat.le_of_ble_eq_true rfl) ⟨Nat.le_of_ble_eq_true rfl, Nat.le_of_ble_eq_true rfl⟩ dX8_begin_23 (fun H locs hst => ?_)
        refine lv_if_eq (tgt := 31) hx hb dX8_begin_26 (by decide) (fun c_26 => ?_) (fun c_26 => ?_)
        · have hf := ifp c_26 hf
          refine lv_aload_n hx hb dX8_begin_31 rfl (lv_at hl 0 rfl) ?_
          refine gf_X8_10 C hst dX8_begin_32 ?_
          refine lv_iload_n hx hb dX8_begin_35 rfl (lv_at hl 1 rfl) ?_
          refine lv_iload_n hx hb dX8_begin_36 rfl (lv_at hl 2 rfl) ?_
          obtain ⟨r_37, M_37, hc_37, hf⟩ := obi_some hf
          refine w_cVv (As := [.int x1, .int x2]) (rest := []) C (wB_ad cI cZ a) (mX3_addPrice l D cI cZ a x1 x2 M_23 r_37 M_37 hc_37) calX3_addPrice cavX3_addPrice (mU1 230 rfl rfl) hst hl.1 1 3 rfl rfl rfl rfl (Nat.le_of_ble_eq_true rfl) ⟨Nat.le_of_ble_eq_true rfl, Nat.le_of_ble_eq_true rfl⟩ dX8_begin_37 (fun H locs hst => ?_)
          refine lv_aload_n hx hb dX8_begin_40 rfl (lv_at hl 0 rfl) ?_
          refine gf_X8_19 C hst dX8_begin_41 ?_
          refine lv_iload_n hx hb dX8_begin_44 rfl (lv_at hl 1 rfl) ?_
          refine lv_iload_n hx hb dX8_begin_45 rfl (lv_at hl 2 rfl) ?_
          refine lv_aload_n hx hb dX8_begin_46 rfl (lv_at hl 0 rfl) ?_
          refine gf_X8_10 C hst dX8_begin_47 ?_
          obtain ⟨r_50, M_50, hc_50, hf⟩ := obi_some hf
          refine w_cVi (As := []) (rest := [.int x2, .int x1, .ref (a 5)]) C (wB_ad cI cZ a) (mX3_now l D cI cZ a  M_37 r_50 M_50 hc_50) calX3_now cavX3_now (mU1 234 rfl rfl) hst hl.1 1 3 rfl rfl rfl rfl (Nat.le_of_ble_eq_true rfl) ⟨Nat.le_of_ble_eq_true rfl, Nat.le_of_ble_eq_true rfl⟩ dX8_begin_50 (fun H locs hst => ?_)
          obtain ⟨r_53, M_53, hc_53, hf⟩ := obi_some hf
          refine w_cVi (As := [.int x1, .int x2, .int r_50]) (rest := []) C (wB_ad cI cZ a) (mX4_add l D cI cZ a x1 x2 r_50 M_50 r_53 M_53 hc_53) calX4_add cavX4_add (mU1 238 rfl rfl) hst hl.1 5 4 rfl rfl rfl rfl (Nat.le_of_ble_eq_true rfl) ⟨Nat.le_of_ble_eq_true rfl, Nat.le_of_ble_eq_true rfl⟩ dX8_begin_53 (fun H locs hst => ?_)
          obtain ⟨e1, e2⟩ := sinj hf
          subst e1
          subst e2
          exact w_iret C hst dX8_begin_56
        · have hf := ifn c_26 hf
          refine lv_iconst (v := -1) hx hb dX8_begin_29 (by decide) ?_
          obtain ⟨e1, e2⟩ := sinj hf
          subst e1
          subst e2
          exact w_iret C hst dX8_begin_30
set_option maxRecDepth 100000 in
theorem mX8_begin (l : Launch) (D : va_G) (cI cZ : ClassId) (a : Nat → Nat) (x1 x2 : Int32) (M : Mem) (r : Int32) (M' : Mem) (hf : fX8_begin x1 x2 M = some (r, M')) : MI l D cI cZ (wB cI cZ a) yX8_begin cX8_begin 3 (some .int) 1 24 [.ref (a 0), .int x1, .int x2] M r M' :=
  MI.of (by decide) (Nat.le_of_ble_eq_true rfl) (fun p e s m args below meth c A C hst ls hl => kX8_begin_0 C x1 x2 M s.heap [] ls hf hst hl)

def fX8_stop (x1 : Int32) (M : Mem) : Res :=
  obi (fX4_isRunning x1 M) (fun r_5 M_5 => (if r_5 = 0 then some ((0 : Int32), M_5) else obi (fX4_serviceOf x1 M_5) (fun r_22 M_22 => obi (fX4_priceOf x1 M_22) (fun r_30 M_30 => obi (fX3_addPrice r_22 (-r_30) M_30) (fun r_34 M_34 => obi (fX3_now  M_34) (fun r_46 M_46 => obi (fX4_end x1 r_46 M_46) (fun r_49 M_49 => some ((1 : Int32), M_49))))))))
theorem calX8_stop : Cal yX8_stop cX8_stop 2 (some .boolean) 1 := ⟨(mU2 5 rfl rfl), (mU1 1 rfl rfl), by decide +kernel⟩
theorem cavX8_stop : CalV yX8_stop := ⟨(mU2 3 rfl rfl), (mU2 4 rfl rfl)⟩
set_option maxHeartbeats 4000000 in
set_option maxRecDepth 100000 in
theorem kX8_stop_0 {p : Program} {l : Launch} {e : Env} {s : State} {m : MethodId} {args : Array Value} {below : List Frame} {meth : Method} {c : Code} {D : va_G} {cI cZ : ClassId} {a : Nat → Nat} {A : Nat → Prop} {r : Int32} {M' : Mem} (C : Cx p s m args meth c cX8_stop 2 RX8 (some .boolean) D cI cZ A)  (x1 : Int32) (M : Mem) (H : Heap) (locs : List Loc) (ls : Array Slot) (hf : fX8_stop x1 M = some (r, M')) (hst : St D (wB cI cZ a) A s.heap H locs M) (hl : lv_has ls 2 [(0, .ref (a 0)), (1, .int x1)]) : Wi p l e { frames := 2, cells := 0, slots := 0, locals := 42 } s m args below meth c D (wB cI cZ a) A r M' H locs (F0 m 0 ls []) := by
  unfold fX8_stop at hf
  obtain ⟨hx, hb, hml, hown, hU, hr, hlk, hK, hA⟩ := id C
  refine lv_aload_n hx hb dX8_stop_0 rfl (lv_at hl 0 rfl) ?_
  refine gf_X8_19 C hst dX8_stop_1 ?_
  refine lv_iload_n hx hb dX8_stop_4 rfl (lv_at hl 1 rfl) ?_
  obtain ⟨r_5, M_5, hc_5, hf⟩ := obi_some hf
  refine w_cVi (As := [.int x1]) (rest := []) C (wB_ad cI cZ a) (mX4_isRunning l D cI cZ a x1 M r_5 M_5 hc_5) calX4_isRunning cavX4_isRunning (mU2 6 rfl rfl) hst hl.1 5 4 rfl rfl rfl rfl (Nat.le_of_ble_eq_true rfl) ⟨Nat.le_of_ble_eq_true rfl, Nat.le_of_ble_eq_true rfl⟩ dX8_stop_5 (fun H locs hst => ?_)
  refine lv_if_ne (tgt := 13) hx hb dX8_stop_8 (by decide) (fun c_8 => ?_) (fun c_8 => ?_)
  · have hf := ifn c_8 hf
    refine lv_aload_n hx hb dX8_stop_13 rfl (lv_at hl 0 rfl) ?_
    refine gf_X8_10 C hst dX8_stop_14 ?_
    refine lv_aload_n hx hb dX8_stop_17 rfl (lv_at hl 0 rfl) ?_
    refine gf_X8_19 C hst dX8_stop_18 ?_
    refine lv_iload_n hx hb dX8_stop_21 rfl (lv_at hl 1 rfl) ?_
    obtain ⟨r_22, M_22, hc_22, hf⟩ := obi_some hf
    refine w_cVi (As := [.int x1]) (rest := [.ref (a 1)]) C (wB_ad cI cZ a) (mX4_serviceOf l D cI cZ a x1 M_5 r_22 M_22 hc_22) calX4_serviceOf cavX4_serviceOf (mU2 14 rfl rfl) hst hl.1 5 4 rfl rfl rfl rfl (Nat.le_of_ble_eq_true rfl) ⟨Nat.le_of_ble_eq_true rfl, Nat.le_of_ble_eq_true rfl⟩ dX8_stop_22 (fun H locs hst => ?_)
    refine lv_aload_n hx hb dX8_stop_25 rfl (lv_at hl 0 rfl) ?_
    refine gf_X8_19 C hst dX8_stop_26 ?_
    refine lv_iload_n hx hb dX8_stop_29 rfl (lv_at hl 1 rfl) ?_
    obtain ⟨r_30, M_30, hc_30, hf⟩ := obi_some hf
    refine w_cVi (As := [.int x1]) (rest := [.int r_22, .ref (a 1)]) C (wB_ad cI cZ a) (mX4_priceOf l D cI cZ a x1 M_22 r_30 M_30 hc_30) calX4_priceOf cavX4_priceOf (mU2 18 rfl rfl) hst hl.1 5 4 rfl rfl rfl rfl (Nat.le_of_ble_eq_true rfl) ⟨Nat.le_of_ble_eq_true rfl, Nat.le_of_ble_eq_true rfl⟩ dX8_stop_30 (fun H locs hst => ?_)
    refine lv_ineg hx hb dX8_stop_33 ?_
    obtain ⟨r_34, M_34, hc_34, hf⟩ := obi_some hf
    refine w_cVv (As := [.int r_22, .int (-r_30)]) (rest := []) C (wB_ad cI cZ a) (mX3_addPrice l D cI cZ a r_22 (-r_30) M_30 r_34 M_34 hc_34) calX3_addPrice cavX3_addPrice (mU1 230 rfl rfl) hst hl.1 1 3 rfl rfl rfl rfl (Nat.le_of_ble_eq_true rfl) ⟨Nat.le_of_ble_eq_true rfl, Nat.le_of_ble_eq_true rfl⟩ dX8_stop_34 (fun H locs hst => ?_)
    refine lv_aload_n hx hb dX8_stop_37 rfl (lv_at hl 0 rfl) ?_
    refine gf_X8_19 C hst dX8_stop_38 ?_
    refine lv_iload_n hx hb dX8_stop_41 rfl (lv_at hl 1 rfl) ?_
    refine lv_aload_n hx hb dX8_stop_42 rfl (lv_at hl 0 rfl) ?_
    refine gf_X8_10 C hst dX8_stop_43 ?_
    obtain ⟨r_46, M_46, hc_46, hf⟩ := obi_some hf
    refine w_cVi (As := []) (rest := [.int x1, .ref (a 5)]) C (wB_ad cI cZ a) (mX3_now l D cI cZ a  M_34 r_46 M_46 hc_46) calX3_now cavX3_now (mU1 234 rfl rfl) hst hl.1 1 3 rfl rfl rfl rfl (Nat.le_of_ble_eq_true rfl) ⟨Nat.le_of_ble_eq_true rfl, Nat.le_of_ble_eq_true rfl⟩ dX8_stop_46 (fun H locs hst => ?_)
    obtain ⟨r_49, M_49, hc_49, hf⟩ := obi_some hf
    refine w_cVv (As := [.int x1, .int r_46]) (rest := []) C (wB_ad cI cZ a) (mX4_end l D cI cZ a x1 r_46 M_46 r_49 M_49 hc_49) calX4_end cavX4_end (mU2 22 rfl rfl) hst hl.1 5 4 rfl rfl rfl rfl (Nat.le_of_ble_eq_true rfl) ⟨Nat.le_of_ble_eq_true rfl, Nat.le_of_ble_eq_true rfl⟩ dX8_stop_49 (fun H locs hst => ?_)
    refine lv_iconst (v := 1) hx hb dX8_stop_52 (by decide) ?_
    obtain ⟨e1, e2⟩ := sinj hf
    subst e1
    subst e2
    exact w_zret C rfl hst dX8_stop_53
  · have hf := ifp c_8 hf
    refine lv_iconst (v := 0) hx hb dX8_stop_11 (by decide) ?_
    obtain ⟨e1, e2⟩ := sinj hf
    subst e1
    subst e2
    exact w_zret C rfl hst dX8_stop_12
set_option maxRecDepth 100000 in
theorem mX8_stop (l : Launch) (D : va_G) (cI cZ : ClassId) (a : Nat → Nat) (x1 : Int32) (M : Mem) (r : Int32) (M' : Mem) (hf : fX8_stop x1 M = some (r, M')) : MI l D cI cZ (wB cI cZ a) yX8_stop cX8_stop 2 (some .boolean) 2 42 [.ref (a 0), .int x1] M r M' :=
  MI.of (by decide) (Nat.le_of_ble_eq_true rfl) (fun p e s m args below meth c A C hst ls hl => kX8_stop_0 C x1 M s.heap [] ls hf hst hl)

def fX8_use (x1 x2 : Int32) (M : Mem) : Res :=
  obi (fX8_isService x1 M) (fun r_1 M_1 => (if r_1 = 0 then some ((0 : Int32), M_1) else (if x2 < 0 then some ((0 : Int32), M_1) else (if x2 ≤ (9999 : Int32) then obi (fX3_usedNow x1 M_1) (fun r_25 M_25 => (if (r_25 + x2) ≤ (99999 : Int32) then obi (fX3_addUsed x1 x2 M_25) (fun r_43 M_43 => some ((1 : Int32), M_43)) else some ((0 : Int32), M_25))) else some ((0 : Int32), M_1)))))
theorem calX8_use : Cal yX8_use cX8_use 3 (some .boolean) 2 := ⟨(mU2 29 rfl rfl), (mU1 1 rfl rfl), by decide +kernel⟩
theorem cavX8_use : CalV yX8_use := ⟨(mU2 27 rfl rfl), (mU2 28 rfl rfl)⟩
set_option maxHeartbeats 4000000 in
set_option maxRecDepth 100000 in
theorem kX8_use_0 {p : Program} {l : Launch} {e : Env} {s : State} {m : MethodId} {args : Array Value} {below : List Frame} {meth : Method} {c : Code} {D : va_G} {cI cZ : ClassId} {a : Nat → Nat} {A : Nat → Prop} {r : Int32} {M' : Mem} (C : Cx p s m args meth c cX8_use 3 RX8 (some .boolean) D cI cZ A)  (x1 x2 : Int32) (M : Mem) (H : Heap) (locs : List Loc) (ls : Array Slot) (hf : fX8_use x1 x2 M = some (r, M')) (hst : St D (wB cI cZ a) A s.heap H locs M) (hl : lv_has ls 3 [(0, .ref (a 0)), (1, .int x1), (2, .int x2)]) : Wi p l e { frames := 1, cells := 0, slots := 0, locals := 22 } s m args below meth c D (wB cI cZ a) A r M' H locs (F0 m 0 ls []) := by
  unfold fX8_use at hf
  obtain ⟨hx, hb, hml, hown, hU, hr, hlk, hK, hA⟩ := id C
  refine lv_iload_n hx hb dX8_use_0 rfl (lv_at hl 1 rfl) ?_
  obtain ⟨r_1, M_1, hc_1, hf⟩ := obi_some hf
  refine w_cSi (As := [.int x1]) (rest := []) C (wB_ad cI cZ a) (mX8_isService l D cI cZ a x1 M r_1 M_1 hc_1) calX8_isService casX8_isService (mU1 201 rfl rfl) hst hl.1 rfl rfl (Nat.le_of_ble_eq_true rfl) ⟨Nat.le_of_ble_eq_true rfl, Nat.le_of_ble_eq_true rfl⟩ dX8_use_1 (fun H locs hst => ?_)
  refine lv_if_eq (tgt := 18) hx hb dX8_use_4 (by decide) (fun c_4 => ?_) (fun c_4 => ?_)
  · have hf := ifp c_4 hf
    refine lv_iconst (v := 0) hx hb dX8_use_18 (by decide) ?_
    obtain ⟨e1, e2⟩ := sinj hf
    subst e1
    subst e2
    exact w_zret C rfl hst dX8_use_19
  · have hf := ifn c_4 hf
    refine lv_iload_n hx hb dX8_use_7 rfl (lv_at hl 2 rfl) ?_
    refine lv_if_lt (tgt := 18) hx hb dX8_use_8 (by decide) (fun c_8 => ?_) (fun c_8 => ?_)
    · have hf := ifp c_8 hf
      refine lv_iconst (v := 0) hx hb dX8_use_18 (by decide) ?_
      obtain ⟨e1, e2⟩ := sinj hf
      subst e1
      subst e2
      exact w_zret C rfl hst dX8_use_19
    · have hf := ifn c_8 hf
      refine lv_iload_n hx hb dX8_use_11 rfl (lv_at hl 2 rfl) ?_
      refine lv_sipush (v := 9999) hx hb dX8_use_12 (by decide) ?_
      refine lv_icmp_le (tgt := 20) hx hb dX8_use_15 (by decide) (fun c_15 => ?_) (fun c_15 => ?_)
      · have hf := ifp c_15 hf
        refine lv_aload_n hx hb dX8_use_20 rfl (lv_at hl 0 rfl) ?_
        refine gf_X8_10 C hst dX8_use_21 ?_
        refine lv_iload_n hx hb dX8_use_24 rfl (lv_at hl 1 rfl) ?_
        obtain ⟨r_25, M_25, hc_25, hf⟩ := obi_some hf
        refine w_cVi (As := [.int x1]) (rest := []) C (wB_ad cI cZ a) (mX3_usedNow l D cI cZ a x1 M_1 r_25 M_25 hc_25) calX3_usedNow cavX3_usedNow (mU2 30 rfl rfl) hst hl.1 1 3 rfl rfl rfl rfl (Nat.le_of_ble_eq_true rfl) ⟨Nat.le_of_ble_eq_true rfl, Nat.le_of_ble_eq_true rfl⟩ dX8_use_25 (fun H locs hst => ?_)
        refine lv_iload_n hx hb dX8_use_28 rfl (lv_at hl 2 rfl) ?_
        refine lv_iadd hx hb dX8_use_29 ?_
        refine lv_ldc (v := 99999) hx hb hown (hU (.constant RX8 124 99999) (mU2 34 rfl rfl)) dX8_use_30 ?_
        refine lv_icmp_le (tgt := 37) hx hb dX8_use_32 (by decide) (fun c_32 => ?_) (fun c_32 => ?_)
        · have hf := ifp c_32 hf
          refine lv_aload_n hx hb dX8_use_37 rfl (lv_at hl 0 rfl) ?_
          refine gf_X8_10 C hst dX8_use_38 ?_
          refine lv_iload_n hx hb dX8_use_41 rfl (lv_at hl 1 rfl) ?_
          refine lv_iload_n hx hb dX8_use_42 rfl (lv_at hl 2 rfl) ?_
          obtain ⟨r_43, M_43, hc_43, hf⟩ := obi_some hf
          refine w_cVv (As := [.int x1, .int x2]) (rest := []) C (wB_ad cI cZ a) (mX3_addUsed l D cI cZ a x1 x2 M_25 r_43 M_43 hc_43) calX3_addUsed cavX3_addUsed (mU2 35 rfl rfl) hst hl.1 1 3 rfl rfl rfl rfl (Nat.le_of_ble_eq_true rfl) ⟨Nat.le_of_ble_eq_true rfl, Nat.le_of_ble_eq_true rfl⟩ dX8_use_43 (fun H locs hst => ?_)
          refine lv_iconst (v := 1) hx hb dX8_use_46 (by decide) ?_
          obtain ⟨e1, e2⟩ := sinj hf
          subst e1
          subst e2
          exact w_zret C rfl hst dX8_use_47
        · have hf := ifn c_32 hf
          refine lv_iconst (v := 0) hx hb dX8_use_35 (by decide) ?_
          obtain ⟨e1, e2⟩ := sinj hf
          subst e1
          subst e2
          exact w_zret C rfl hst dX8_use_36
      · have hf := ifn c_15 hf
        refine lv_iconst (v := 0) hx hb dX8_use_18 (by decide) ?_
        obtain ⟨e1, e2⟩ := sinj hf
        subst e1
        subst e2
        exact w_zret C rfl hst dX8_use_19
set_option maxRecDepth 100000 in
theorem mX8_use (l : Launch) (D : va_G) (cI cZ : ClassId) (a : Nat → Nat) (x1 x2 : Int32) (M : Mem) (r : Int32) (M' : Mem) (hf : fX8_use x1 x2 M = some (r, M')) : MI l D cI cZ (wB cI cZ a) yX8_use cX8_use 3 (some .boolean) 1 22 [.ref (a 0), .int x1, .int x2] M r M' :=
  MI.of (by decide) (Nat.le_of_ble_eq_true rfl) (fun p e s m args below meth c A C hst ls hl => kX8_use_0 C x1 x2 M s.heap [] ls hf hst hl)

def fX8_floor (x1 : Int32) (M : Mem) : Res :=
  (if x1 < 0 then some ((0 : Int32), M) else (if x1 ≤ (9999 : Int32) then some ((1 : Int32), (upM M 0 8 x1)) else some ((0 : Int32), M)))
theorem calX8_floor : Cal yX8_floor cX8_floor 2 (some .boolean) 1 := ⟨(mU2 42 rfl rfl), (mU1 1 rfl rfl), by decide +kernel⟩
theorem cavX8_floor : CalV yX8_floor := ⟨(mU2 40 rfl rfl), (mU2 41 rfl rfl)⟩
set_option maxHeartbeats 4000000 in
set_option maxRecDepth 100000 in
theorem kX8_floor_0 {p : Program} {l : Launch} {e : Env} {s : State} {m : MethodId} {args : Array Value} {below : List Frame} {meth : Method} {c : Code} {D : va_G} {cI cZ : ClassId} {a : Nat → Nat} {A : Nat → Prop} {r : Int32} {M' : Mem} (C : Cx p s m args meth c cX8_floor 2 RX8 (some .boolean) D cI cZ A)  (x1 : Int32) (M : Mem) (H : Heap) (locs : List Loc) (ls : Array Slot) (hf : fX8_floor x1 M = some (r, M')) (hst : St D (wB cI cZ a) A s.heap H locs M) (hl : lv_has ls 2 [(0, .ref (a 0)), (1, .int x1)]) : Wi p l e { frames := 0, cells := 0, slots := 0, locals := 0 } s m args below meth c D (wB cI cZ a) A r M' H locs (F0 m 0 ls []) := by
  unfold fX8_floor at hf
  obtain ⟨hx, hb, hml, hown, hU, hr, hlk, hK, hA⟩ := id C
  refine lv_iload_n hx hb dX8_floor_0 rfl (lv_at hl 1 rfl) ?_
  refine lv_if_lt (tgt := 11) hx hb dX8_floor_1 (by decide) (fun c_1 => ?_) (fun c_1 => ?_)
  · have hf := ifp c_1 hf
    refine lv_iconst (v := 0) hx hb dX8_floor_11 (by decide) ?_
    obtain ⟨e1, e2⟩ := sinj hf
    subst e1
    subst e2
    exact w_zret C rfl hst dX8_floor_12
  · have hf := ifn c_1 hf
    refine lv_iload_n hx hb dX8_floor_4 rfl (lv_at hl 1 rfl) ?_
    refine lv_sipush (v := 9999) hx hb dX8_floor_5 (by decide) ?_
    refine lv_icmp_le (tgt := 13) hx hb dX8_floor_8 (by decide) (fun c_8 => ?_) (fun c_8 => ?_)
    · have hf := ifp c_8 hf
      refine lv_aload_n hx hb dX8_floor_13 rfl (lv_at hl 0 rfl) ?_
      refine lv_iload_n hx hb dX8_floor_14 rfl (lv_at hl 1 rfl) ?_
      refine pf_X8_71 C hst dX8_floor_15 (fun H locs hst => ?_)
      refine lv_iconst (v := 1) hx hb dX8_floor_18 (by decide) ?_
      obtain ⟨e1, e2⟩ := sinj hf
      subst e1
      subst e2
      exact w_zret C rfl hst dX8_floor_19
    · have hf := ifn c_8 hf
      refine lv_iconst (v := 0) hx hb dX8_floor_11 (by decide) ?_
      obtain ⟨e1, e2⟩ := sinj hf
      subst e1
      subst e2
      exact w_zret C rfl hst dX8_floor_12
set_option maxRecDepth 100000 in
theorem mX8_floor (l : Launch) (D : va_G) (cI cZ : ClassId) (a : Nat → Nat) (x1 : Int32) (M : Mem) (r : Int32) (M' : Mem) (hf : fX8_floor x1 M = some (r, M')) : MI l D cI cZ (wB cI cZ a) yX8_floor cX8_floor 2 (some .boolean) 0 0 [.ref (a 0), .int x1] M r M' :=
  MI.of (by decide) (Nat.le_of_ble_eq_true rfl) (fun p e s m args below meth c A C hst ls hl => kX8_floor_0 C x1 M s.heap [] ls hf hst hl)

def fX8_isJump (x1 x2 : Int32) (M : Mem) : Res :=
  obi (fX5_find x1 x2 M) (fun r_6 M_6 => (if r_6 = 0 then some ((0 : Int32), M_6) else obi (fX5_expected  M_6) (fun r_18 M_18 => obi (fX5_spread  M_18) (fun r_26 M_26 => obi (fX3_costOf x1 x2 M_26) (fun r_43 M_43 => (if r_43 ≤ ((r_18 + ((3 : Int32) * r_26)) + (M_26 0 8)) then some ((0 : Int32), M_43) else some ((1 : Int32), M_43)))))))
theorem calX8_isJump : Cal yX8_isJump cX8_isJump 4 (some .boolean) 2 := ⟨(mU2 54 rfl rfl), (mU1 1 rfl rfl), by decide +kernel⟩
theorem cavX8_isJump : CalV yX8_isJump := ⟨(mU2 53 rfl rfl), (mS1 1 rfl)⟩
set_option maxHeartbeats 4000000 in
set_option maxRecDepth 100000 in
theorem kX8_isJump_0 {p : Program} {l : Launch} {e : Env} {s : State} {m : MethodId} {args : Array Value} {below : List Frame} {meth : Method} {c : Code} {D : va_G} {cI cZ : ClassId} {a : Nat → Nat} {A : Nat → Prop} {r : Int32} {M' : Mem} (C : Cx p s m args meth c cX8_isJump 4 RX8 (some .boolean) D cI cZ A)  (x1 x2 : Int32) (M : Mem) (H : Heap) (locs : List Loc) (ls : Array Slot) (hf : fX8_isJump x1 x2 M = some (r, M')) (hst : St D (wB cI cZ a) A s.heap H locs M) (hl : lv_has ls 4 [(0, .ref (a 0)), (1, .int x1), (2, .int x2)]) : Wi p l e { frames := 3, cells := 0, slots := 0, locals := 71 } s m args below meth c D (wB cI cZ a) A r M' H locs (F0 m 0 ls []) := by
  unfold fX8_isJump at hf
  obtain ⟨hx, hb, hml, hown, hU, hr, hlk, hK, hA⟩ := id C
  refine lv_aload_n hx hb dX8_isJump_0 rfl (lv_at hl 0 rfl) ?_
  refine gf_X8_28 C hst dX8_isJump_1 ?_
  refine lv_iload_n hx hb dX8_isJump_4 rfl (lv_at hl 1 rfl) ?_
  refine lv_iload_n hx hb dX8_isJump_5 rfl (lv_at hl 2 rfl) ?_
  obtain ⟨r_6, M_6, hc_6, hf⟩ := obi_some hf
  refine w_cVi (As := [.int x1, .int x2]) (rest := []) C (wB_ad cI cZ a) (mX5_find l D cI cZ a x1 x2 M r_6 M_6 hc_6) calX5_find cavX5_find (mU2 55 rfl rfl) hst hl.1 10 5 rfl rfl rfl rfl (Nat.le_of_ble_eq_true rfl) ⟨Nat.le_of_ble_eq_true rfl, Nat.le_of_ble_eq_true rfl⟩ dX8_isJump_6 (fun H locs hst => ?_)
  refine lv_if_ne (tgt := 14) hx hb dX8_isJump_9 (by decide) (fun c_9 => ?_) (fun c_9 => ?_)
  · have hf := ifn c_9 hf
    refine lv_aload_n hx hb dX8_isJump_14 rfl (lv_at hl 0 rfl) ?_
    refine gf_X8_28 C hst dX8_isJump_15 ?_
    obtain ⟨r_18, M_18, hc_18, hf⟩ := obi_some hf
    refine w_cVi (As := []) (rest := []) C (wB_ad cI cZ a) (mX5_expected l D cI cZ a  M_6 r_18 M_18 hc_18) calX5_expected cavX5_expected (mU2 78 rfl rfl) hst hl.1 10 5 rfl rfl rfl rfl (Nat.le_of_ble_eq_true rfl) ⟨Nat.le_of_ble_eq_true rfl, Nat.le_of_ble_eq_true rfl⟩ dX8_isJump_18 (fun H locs hst => ?_)
    refine lv_iconst (v := 3) hx hb dX8_isJump_21 (by decide) ?_
    refine lv_aload_n hx hb dX8_isJump_22 rfl (lv_at hl 0 rfl) ?_
    refine gf_X8_28 C hst dX8_isJump_23 ?_
    obtain ⟨r_26, M_26, hc_26, hf⟩ := obi_some hf
    refine w_cVi (As := []) (rest := [.int (3 : Int32), .int r_18]) C (wB_ad cI cZ a) (mX5_spread l D cI cZ a  M_18 r_26 M_26 hc_26) calX5_spread cavX5_spread (mU2 82 rfl rfl) hst hl.1 10 5 rfl rfl rfl rfl (Nat.le_of_ble_eq_true rfl) ⟨Nat.le_of_ble_eq_true rfl, Nat.le_of_ble_eq_true rfl⟩ dX8_isJump_26 (fun H locs hst => ?_)
    refine lv_imul hx hb dX8_isJump_29 ?_
    refine lv_iadd hx hb dX8_isJump_30 ?_
    refine lv_aload_n hx hb dX8_isJump_31 rfl (lv_at hl 0 rfl) ?_
    refine gf_X8_71 C hst dX8_isJump_32 ?_
    refine lv_iadd hx hb dX8_isJump_35 ?_
    refine lv_istore_n (lv' := [(3, .int ((r_18 + ((3 : Int32) * r_26)) + (M_26 0 8))), (0, .ref (a 0)), (1, .int x1), (2, .int x2)]) hx hb dX8_isJump_36 rfl hl (by decide) rfl (fun ls hl => ?_)
    refine lv_aload_n hx hb dX8_isJump_37 rfl (lv_at hl 1 rfl) ?_
    refine gf_X8_10 C hst dX8_isJump_38 ?_
    refine lv_iload_n hx hb dX8_isJump_41 rfl (lv_at hl 2 rfl) ?_
    refine lv_iload_n hx hb dX8_isJump_42 rfl (lv_at hl 3 rfl) ?_
    obtain ⟨r_43, M_43, hc_43, hf⟩ := obi_some hf
    refine w_cVi (As := [.int x1, .int x2]) (rest := []) C (wB_ad cI cZ a) (mX3_costOf l D cI cZ a x1 x2 M_26 r_43 M_43 hc_43) calX3_costOf cavX3_costOf (mU2 86 rfl rfl) hst hl.1 1 3 rfl rfl rfl rfl (Nat.le_of_ble_eq_true rfl) ⟨Nat.le_of_ble_eq_true rfl, Nat.le_of_ble_eq_true rfl⟩ dX8_isJump_43 (fun H locs hst => ?_)
    refine lv_iload_n hx hb dX8_isJump_46 rfl (lv_at hl 0 rfl) ?_
    refine lv_icmp_le (tgt := 54) hx hb dX8_isJump_47 (by decide) (fun c_47 => ?_) (fun c_47 => ?_)
    · have hf := ifp c_47 hf
      refine lv_iconst (v := 0) hx hb dX8_isJump_54 (by decide) ?_
      obtain ⟨e1, e2⟩ := sinj hf
      subst e1
      subst e2
      exact w_zret C rfl hst dX8_isJump_55
    · have hf := ifn c_47 hf
      refine lv_iconst (v := 1) hx hb dX8_isJump_50 (by decide) ?_
      refine lv_goto (tgt := 55) hx hb dX8_isJump_51 (by decide) ?_
      obtain ⟨e1, e2⟩ := sinj hf
      subst e1
      subst e2
      exact w_zret C rfl hst dX8_isJump_55
  · have hf := ifp c_9 hf
    refine lv_iconst (v := 0) hx hb dX8_isJump_12 (by decide) ?_
    obtain ⟨e1, e2⟩ := sinj hf
    subst e1
    subst e2
    exact w_zret C rfl hst dX8_isJump_13
set_option maxRecDepth 100000 in
theorem mX8_isJump (l : Launch) (D : va_G) (cI cZ : ClassId) (a : Nat → Nat) (x1 x2 : Int32) (M : Mem) (r : Int32) (M' : Mem) (hf : fX8_isJump x1 x2 M = some (r, M')) : MI l D cI cZ (wB cI cZ a) yX8_isJump cX8_isJump 4 (some .boolean) 3 71 [.ref (a 0), .int x1, .int x2] M r M' :=
  MI.of (by decide) (Nat.le_of_ble_eq_true rfl) (fun p e s m args below meth c A C hst ls hl => kX8_isJump_0 C x1 x2 M s.heap [] ls hf hst hl)

def gX8_endHour_43 (K10 : Int32 → Int32 → Mem → Res) (x1 x2 : Int32) (M : Mem) : Res :=
  K10 x1 (x2 + 1) M
def gX8_endHour_10 (K10 : Int32 → Int32 → Mem → Res) (x1 x2 : Int32) (M : Mem) : Res :=
  (if (6 : Int32) ≤ x2 then obi (fX2_closeStale x1 M) (fun r_54 M_54 => obi (fX3_endHour  M_54) (fun r_61 M_61 => some (0, M_61))) else obi (fX8_isJump x2 x1 M) (fun r_19 M_19 => (if r_19 = 0 then gX8_endHour_43 K10 x1 x2 M_19 else obi (fX4_newestDearest x2 x1 M_19) (fun r_36 M_36 => obi (fX2_raise x2 r_36 x1 M_36) (fun r_40 M_40 => gX8_endHour_43 K10 x1 x2 M_40)))))
def lX8_endHour_10 : Nat → Int32 → Int32 → Mem → Res
  | 0, _, _, _ => none
  | n + 1, x1, x2, M => gX8_endHour_10 (lX8_endHour_10 n) x1 x2 M
def fX8_endHour (M : Mem) : Res :=
  obi (fX3_now  M) (fun r_4 M_4 => lX8_endHour_10  fu r_4 (0 : Int32) M_4)
theorem calX8_endHour : Cal yX8_endHour cX8_endHour 3 none 0 := ⟨(mU2 50 rfl rfl), (mU1 1 rfl rfl), by decide +kernel⟩
theorem cavX8_endHour : CalV yX8_endHour := ⟨(mU2 49 rfl rfl), (mS1 0 rfl)⟩
set_option maxHeartbeats 4000000 in
set_option maxRecDepth 100000 in
theorem kX8_endHour_43 {p : Program} {l : Launch} {e : Env} {s : State} {m : MethodId} {args : Array Value} {below : List Frame} {meth : Method} {c : Code} {D : va_G} {cI cZ : ClassId} {a : Nat → Nat} {A : Nat → Prop} {r : Int32} {M' : Mem} (C : Cx p s m args meth c cX8_endHour 3 RX8 none D cI cZ A) (K10 : Int32 → Int32 → Mem → Res) (hK10 : ∀ (x1 x2 : Int32) (M : Mem) (H : Heap) (locs : List Loc) (ls : Array Slot), K10 x1 x2 M = some (r, M') → St D (wB cI cZ a) A s.heap H locs M → lv_has ls 3 [(0, .ref (a 0)), (1, .int x1), (2, .int x2)] → Wv p l e { frames := 4, cells := 0, slots := 0, locals := 94 } s m args below meth c D (wB cI cZ a) A M' H locs (F0 m 10 ls [])) (x1 x2 : Int32) (M : Mem) (H : Heap) (locs : List Loc) (ls : Array Slot) (hf : gX8_endHour_43 K10 x1 x2 M = some (r, M')) (hst : St D (wB cI cZ a) A s.heap H locs M) (hl : lv_has ls 3 [(0, .ref (a 0)), (1, .int x1), (2, .int x2)]) : Wv p l e { frames := 4, cells := 0, slots := 0, locals := 94 } s m args below meth c D (wB cI cZ a) A M' H locs (F0 m 43 ls []) := by
  unfold gX8_endHour_43 at hf
  obtain ⟨hx, hb, hml, hown, hU, hr, hlk, hK, hA⟩ := id C
  refine lv_iinc (v := (x2 + 1)) (lv' := [(2, .int (x2 + 1)), (0, .ref (a 0)), (1, .int x1)]) hx hb dX8_endHour_43 hl (k := 2) rfl rfl (by decide) rfl (fun ls hl => ?_)
  refine lv_goto (tgt := 10) hx hb dX8_endHour_46 (by decide) ?_
  exact hK10 x1 (x2 + 1) M _ _ _ hf hst (lv_sub hl [1, 2, 0] rfl)
set_option maxHeartbeats 4000000 in
set_option maxRecDepth 100000 in
theorem kX8_endHour_10 {p : Program} {l : Launch} {e : Env} {s : State} {m : MethodId} {args : Array Value} {below : List Frame} {meth : Method} {c : Code} {D : va_G} {cI cZ : ClassId} {a : Nat → Nat} {A : Nat → Prop} {r : Int32} {M' : Mem} (C : Cx p s m args meth c cX8_endHour 3 RX8 none D cI cZ A) (K10 : Int32 → Int32 → Mem → Res) (hK10 : ∀ (x1 x2 : Int32) (M : Mem) (H : Heap) (locs : List Loc) (ls : Array Slot), K10 x1 x2 M = some (r, M') → St D (wB cI cZ a) A s.heap H locs M → lv_has ls 3 [(0, .ref (a 0)), (1, .int x1), (2, .int x2)] → Wv p l e { frames := 4, cells := 0, slots := 0, locals := 94 } s m args below meth c D (wB cI cZ a) A M' H locs (F0 m 10 ls [])) (x1 x2 : Int32) (M : Mem) (H : Heap) (locs : List Loc) (ls : Array Slot) (hf : gX8_endHour_10 K10 x1 x2 M = some (r, M')) (hst : St D (wB cI cZ a) A s.heap H locs M) (hl : lv_has ls 3 [(0, .ref (a 0)), (1, .int x1), (2, .int x2)]) : Wv p l e { frames := 4, cells := 0, slots := 0, locals := 94 } s m args below meth c D (wB cI cZ a) A M' H locs (F0 m 10 ls []) := by
  unfold gX8_endHour_10 at hf
  obtain ⟨hx, hb, hml, hown, hU, hr, hlk, hK, hA⟩ := id C
  refine lv_iload_n hx hb dX8_endHour_10 rfl (lv_at hl 2 rfl) ?_
  refine lv_bipush (v := 6) hx hb dX8_endHour_11 (by decide) ?_
  refine lv_icmp_ge (tgt := 49) hx hb dX8_endHour_13 (by decide) (fun c_13 => ?_) (fun c_13 => ?_)
  · have hf := ifp c_13 hf
    refine lv_aload_n hx hb dX8_endHour_49 rfl (lv_at hl 0 rfl) ?_
    refine gf_X8_42 C hst dX8_endHour_50 ?_
    refine lv_iload_n hx hb dX8_endHour_53 rfl (lv_at hl 1 rfl) ?_
    obtain ⟨r_54, M_54, hc_54, hf⟩ := obi_some hf
    refine w_cVv (As := [.int x1]) (rest := []) C (wB_ad cI cZ a) (mX2_closeStale l D cI cZ a x1 M r_54 M_54 hc_54) calX2_closeStale cavX2_closeStale (mU2 103 rfl rfl) hst hl.1 14 2 rfl rfl rfl rfl (Nat.le_of_ble_eq_true rfl) ⟨Nat.le_of_ble_eq_true rfl, Nat.le_of_ble_eq_true rfl⟩ dX8_endHour_54 (fun H locs hst => ?_)
    refine lv_aload_n hx hb dX8_endHour_57 rfl (lv_at hl 0 rfl) ?_
    refine gf_X8_10 C hst dX8_endHour_58 ?_
    obtain ⟨r_61, M_61, hc_61, hf⟩ := obi_some hf
    refine w_cVv (As := []) (rest := []) C (wB_ad cI cZ a) (mX3_endHour l D cI cZ a  M_54 r_61 M_61 hc_61) calX3_endHour cavX3_endHour (mU2 107 rfl rfl) hst hl.1 1 3 rfl rfl rfl rfl (Nat.le_of_ble_eq_true rfl) ⟨Nat.le_of_ble_eq_true rfl, Nat.le_of_ble_eq_true rfl⟩ dX8_endHour_61 (fun H locs hst => ?_)
    obtain ⟨e1, e2⟩ := sinj hf
    subst e1
    subst e2
    exact w_vret C hst dX8_endHour_64
  · have hf := ifn c_13 hf
    refine lv_aload_n hx hb dX8_endHour_16 rfl (lv_at hl 0 rfl) ?_
    refine lv_iload_n hx hb dX8_endHour_17 rfl (lv_at hl 2 rfl) ?_
    refine lv_iload_n hx hb dX8_endHour_18 rfl (lv_at hl 1 rfl) ?_
    obtain ⟨r_19, M_19, hc_19, hf⟩ := obi_some hf
    refine w_cVi (As := [.int x2, .int x1]) (rest := []) C (wB_ad cI cZ a) (mX8_isJump l D cI cZ a x2 x1 M r_19 M_19 hc_19) calX8_isJump cavX8_isJump (mU2 51 rfl rfl) hst hl.1 0 8 rfl rfl rfl rfl (Nat.le_of_ble_eq_true rfl) ⟨Nat.le_of_ble_eq_true rfl, Nat.le_of_ble_eq_true rfl⟩ dX8_endHour_19 (fun H locs hst => ?_)
    refine lv_if_eq (tgt := 43) hx hb dX8_endHour_22 (by decide) (fun c_22 => ?_) (fun c_22 => ?_)
    · have hf := ifp c_22 hf
      exact kX8_endHour_43 C K10 hK10 x1 x2 M_19 _ _ _ hf hst (lv_sub hl [0, 1, 2] rfl)
    · have hf := ifn c_22 hf
      refine lv_aload_n hx hb dX8_endHour_25 rfl (lv_at hl 0 rfl) ?_
      refine gf_X8_42 C hst dX8_endHour_26 ?_
      refine lv_iload_n hx hb dX8_endHour_29 rfl (lv_at hl 2 rfl) ?_
      refine lv_aload_n hx hb dX8_endHour_30 rfl (lv_at hl 0 rfl) ?_
      refine gf_X8_19 C hst dX8_endHour_31 ?_
      refine lv_iload_n hx hb dX8_endHour_34 rfl (lv_at hl 2 rfl) ?_
      refine lv_iload_n hx hb dX8_endHour_35 rfl (lv_at hl 1 rfl) ?_
      obtain ⟨r_36, M_36, hc_36, hf⟩ := obi_some hf
      refine w_cVi (As := [.int x2, .int x1]) (rest := [.int x2, .ref (a 14)]) C (wB_ad cI cZ a) (mX4_newestDearest l D cI cZ a x2 x1 M_19 r_36 M_36 hc_36) calX4_newestDearest cavX4_newestDearest (mU2 87 rfl rfl) hst hl.1 5 4 rfl rfl rfl rfl (Nat.le_of_ble_eq_true rfl) ⟨Nat.le_of_ble_eq_true rfl, Nat.le_of_ble_eq_true rfl⟩ dX8_endHour_36 (fun H locs hst => ?_)
      refine lv_iload_n hx hb dX8_endHour_39 rfl (lv_at hl 1 rfl) ?_
      obtain ⟨r_40, M_40, hc_40, hf⟩ := obi_some hf
      refine w_cVv (As := [.int x2, .int r_36, .int x1]) (rest := []) C (wB_ad cI cZ a) (mX2_raise l D cI cZ a x2 r_36 x1 M_36 r_40 M_40 hc_40) calX2_raise cavX2_raise (mU2 91 rfl rfl) hst hl.1 14 2 rfl rfl rfl rfl (Nat.le_of_ble_eq_true rfl) ⟨Nat.le_of_ble_eq_true rfl, Nat.le_of_ble_eq_true rfl⟩ dX8_endHour_40 (fun H locs hst => ?_)
      exact kX8_endHour_43 C K10 hK10 x1 x2 M_40 _ _ _ hf hst (lv_sub hl [0, 1, 2] rfl)
theorem tX8_endHour_10 {p : Program} {l : Launch} {e : Env} {s : State} {m : MethodId} {args : Array Value} {below : List Frame} {meth : Method} {c : Code} {D : va_G} {cI cZ : ClassId} {a : Nat → Nat} {A : Nat → Prop} {r : Int32} {M' : Mem} (C : Cx p s m args meth c cX8_endHour 3 RX8 none D cI cZ A)  : ∀ (n : Nat) (x1 x2 : Int32) (M : Mem) (H : Heap) (locs : List Loc) (ls : Array Slot), lX8_endHour_10 n x1 x2 M = some (r, M') → St D (wB cI cZ a) A s.heap H locs M → lv_has ls 3 [(0, .ref (a 0)), (1, .int x1), (2, .int x2)] → Wv p l e { frames := 4, cells := 0, slots := 0, locals := 94 } s m args below meth c D (wB cI cZ a) A M' H locs (F0 m 10 ls []) := by
  intro n
  induction n with
  | zero =>
    intro x1 x2 M H locs ls hf
    exact nomatch (show (none : Res) = some (r, M') from hf)
  | succ n ih =>
    intro x1 x2 M H locs ls hf hst hl
    exact kX8_endHour_10 C (lX8_endHour_10 n) ih x1 x2 M H locs ls hf hst hl

set_option maxHeartbeats 4000000 in
set_option maxRecDepth 100000 in
theorem kX8_endHour_0 {p : Program} {l : Launch} {e : Env} {s : State} {m : MethodId} {args : Array Value} {below : List Frame} {meth : Method} {c : Code} {D : va_G} {cI cZ : ClassId} {a : Nat → Nat} {A : Nat → Prop} {r : Int32} {M' : Mem} (C : Cx p s m args meth c cX8_endHour 3 RX8 none D cI cZ A)  (M : Mem) (H : Heap) (locs : List Loc) (ls : Array Slot) (hf : fX8_endHour M = some (r, M')) (hst : St D (wB cI cZ a) A s.heap H locs M) (hl : lv_has ls 3 [(0, .ref (a 0))]) : Wv p l e { frames := 4, cells := 0, slots := 0, locals := 94 } s m args below meth c D (wB cI cZ a) A M' H locs (F0 m 0 ls []) := by
  unfold fX8_endHour at hf
  obtain ⟨hx, hb, hml, hown, hU, hr, hlk, hK, hA⟩ := id C
  refine lv_aload_n hx hb dX8_endHour_0 rfl (lv_at hl 0 rfl) ?_
  refine gf_X8_10 C hst dX8_endHour_1 ?_
  obtain ⟨r_4, M_4, hc_4, hf⟩ := obi_some hf
  refine w_cVi (As := []) (rest := []) C (wB_ad cI cZ a) (mX3_now l D cI cZ a  M r_4 M_4 hc_4) calX3_now cavX3_now (mU1 234 rfl rfl) hst hl.1 1 3 rfl rfl rfl rfl (Nat.le_of_ble_eq_true rfl) ⟨Nat.le_of_ble_eq_true rfl, Nat.le_of_ble_eq_true rfl⟩ dX8_endHour_4 (fun H locs hst => ?_)
  refine lv_istore_n (lv' := [(1, .int r_4), (0, .ref (a 0))]) hx hb dX8_endHour_7 rfl hl (by decide) rfl (fun ls hl => ?_)
  refine lv_iconst (v := 0) hx hb dX8_endHour_8 (by decide) ?_
  refine lv_istore_n (lv' := [(2, .int (0 : Int32)), (1, .int r_4), (0, .ref (a 0))]) hx hb dX8_endHour_9 rfl hl (by decide) rfl (fun ls hl => ?_)
  exact tX8_endHour_10 C  fu r_4 (0 : Int32) M_4 _ _ _ hf hst (lv_sub hl [2, 1, 0] rfl)
set_option maxRecDepth 100000 in
theorem mX8_endHour (l : Launch) (D : va_G) (cI cZ : ClassId) (a : Nat → Nat) (M : Mem) (r : Int32) (M' : Mem) (hf : fX8_endHour  M = some (r, M')) : MV l D cI cZ (wB cI cZ a) yX8_endHour cX8_endHour 3 4 94 [.ref (a 0)] M M' :=
  MV.of (by decide) (Nat.le_of_ble_eq_true rfl) (fun p e s m args below meth c A C hst ls hl => kX8_endHour_0 C  M s.heap [] ls hf hst hl)

def gX8_hours_30 (K30 : Int32 → Int32 → Mem → Res) (x1 x2 : Int32) (M : Mem) : Res :=
  (if x1 ≤ x2 then obi (fX3_now  M) (fun r_49 M_49 => some (r_49, M_49)) else obi (fX8_endHour  M) (fun r_36 M_36 => K30 x1 (x2 + 1) M_36))
def lX8_hours_30 : Nat → Int32 → Int32 → Mem → Res
  | 0, _, _, _ => none
  | n + 1, x1, x2, M => gX8_hours_30 (lX8_hours_30 n) x1 x2 M
def fX8_hours (x1 : Int32) (M : Mem) : Res :=
  (if x1 < (1 : Int32) then some ((-1 : Int32), M) else (if (48 : Int32) < x1 then some ((-1 : Int32), M) else obi (fX3_now  M) (fun r_15 M_15 => (if (r_15 + x1) < (2000 : Int32) then lX8_hours_30  fu x1 (0 : Int32) M_15 else some ((-1 : Int32), M_15)))))
theorem calX8_hours : Cal yX8_hours cX8_hours 3 (some .int) 1 := ⟨(mU2 46 rfl rfl), (mU1 1 rfl rfl), by decide +kernel⟩
theorem cavX8_hours : CalV yX8_hours := ⟨(mU2 44 rfl rfl), (mU2 45 rfl rfl)⟩
set_option maxHeartbeats 4000000 in
set_option maxRecDepth 100000 in
theorem kX8_hours_30 {p : Program} {l : Launch} {e : Env} {s : State} {m : MethodId} {args : Array Value} {below : List Frame} {meth : Method} {c : Code} {D : va_G} {cI cZ : ClassId} {a : Nat → Nat} {A : Nat → Prop} {r : Int32} {M' : Mem} (C : Cx p s m args meth c cX8_hours 3 RX8 (some .int) D cI cZ A) (K30 : Int32 → Int32 → Mem → Res) (hK30 : ∀ (x1 x2 : Int32) (M : Mem) (H : Heap) (locs : List Loc) (ls : Array Slot), K30 x1 x2 M = some (r, M') → St D (wB cI cZ a) A s.heap H locs M → lv_has ls 3 [(0, .ref (a 0)), (1, .int x1), (2, .int x2)] → Wi p l e { frames := 5, cells := 0, slots := 0, locals := 116 } s m args below meth c D (wB cI cZ a) A r M' H locs (F0 m 30 ls [])) (x1 x2 : Int32) (M : Mem) (H : Heap) (locs : List Loc) (ls : Array Slot) (hf : gX8_hours_30 K30 x1 x2 M = some (r, M')) (hst : St D (wB cI cZ a) A s.heap H locs M) (hl : lv_has ls 3 [(0, .ref (a 0)), (1, .int x1), (2, .int x2)]) : Wi p l e { frames := 5, cells := 0, slots := 0, locals := 116 } s m args below meth c D (wB cI cZ a) A r M' H locs (F0 m 30 ls []) := by
  unfold gX8_hours_30 at hf
  obtain ⟨hx, hb, hml, hown, hU, hr, hlk, hK, hA⟩ := id C
  refine lv_iload_n hx hb dX8_hours_30 rfl (lv_at hl 2 rfl) ?_
  refine lv_iload_n hx hb dX8_hours_31 rfl (lv_at hl 1 rfl) ?_
  refine lv_icmp_ge (tgt := 45) hx hb dX8_hours_32 (by decide) (fun c_32 => ?_) (fun c_32 => ?_)
  · have hf := ifp c_32 hf
    refine lv_aload_n hx hb dX8_hours_45 rfl (lv_at hl 0 rfl) ?_
    refine gf_X8_10 C hst dX8_hours_46 ?_
    obtain ⟨r_49, M_49, hc_49, hf⟩ := obi_some hf
    refine w_cVi (As := []) (rest := []) C (wB_ad cI cZ a) (mX3_now l D cI cZ a  M r_49 M_49 hc_49) calX3_now cavX3_now (mU1 234 rfl rfl) hst hl.1 1 3 rfl rfl rfl rfl (Nat.le_of_ble_eq_true rfl) ⟨Nat.le_of_ble_eq_true rfl, Nat.le_of_ble_eq_true rfl⟩ dX8_hours_49 (fun H locs hst => ?_)
    obtain ⟨e1, e2⟩ := sinj hf
    subst e1
    subst e2
    exact w_iret C hst dX8_hours_52
  · have hf := ifn c_32 hf
    refine lv_aload_n hx hb dX8_hours_35 rfl (lv_at hl 0 rfl) ?_
    obtain ⟨r_36, M_36, hc_36, hf⟩ := obi_some hf
    refine w_cVv (As := []) (rest := []) C (wB_ad cI cZ a) (mX8_endHour l D cI cZ a  M r_36 M_36 hc_36) calX8_endHour cavX8_endHour (mU2 47 rfl rfl) hst hl.1 0 8 rfl rfl rfl rfl (Nat.le_of_ble_eq_true rfl) ⟨Nat.le_of_ble_eq_true rfl, Nat.le_of_ble_eq_true rfl⟩ dX8_hours_36 (fun H locs hst => ?_)
    refine lv_iinc (v := (x2 + 1)) (lv' := [(2, .int (x2 + 1)), (0, .ref (a 0)), (1, .int x1)]) hx hb dX8_hours_39 hl (k := 2) rfl rfl (by decide) rfl (fun ls hl => ?_)
    refine lv_goto (tgt := 30) hx hb dX8_hours_42 (by decide) ?_
    exact hK30 x1 (x2 + 1) M_36 _ _ _ hf hst (lv_sub hl [1, 2, 0] rfl)
theorem tX8_hours_30 {p : Program} {l : Launch} {e : Env} {s : State} {m : MethodId} {args : Array Value} {below : List Frame} {meth : Method} {c : Code} {D : va_G} {cI cZ : ClassId} {a : Nat → Nat} {A : Nat → Prop} {r : Int32} {M' : Mem} (C : Cx p s m args meth c cX8_hours 3 RX8 (some .int) D cI cZ A)  : ∀ (n : Nat) (x1 x2 : Int32) (M : Mem) (H : Heap) (locs : List Loc) (ls : Array Slot), lX8_hours_30 n x1 x2 M = some (r, M') → St D (wB cI cZ a) A s.heap H locs M → lv_has ls 3 [(0, .ref (a 0)), (1, .int x1), (2, .int x2)] → Wi p l e { frames := 5, cells := 0, slots := 0, locals := 116 } s m args below meth c D (wB cI cZ a) A r M' H locs (F0 m 30 ls []) := by
  intro n
  induction n with
  | zero =>
    intro x1 x2 M H locs ls hf
    exact nomatch (show (none : Res) = some (r, M') from hf)
  | succ n ih =>
    intro x1 x2 M H locs ls hf hst hl
    exact kX8_hours_30 C (lX8_hours_30 n) ih x1 x2 M H locs ls hf hst hl

set_option maxHeartbeats 4000000 in
set_option maxRecDepth 100000 in
theorem kX8_hours_0 {p : Program} {l : Launch} {e : Env} {s : State} {m : MethodId} {args : Array Value} {below : List Frame} {meth : Method} {c : Code} {D : va_G} {cI cZ : ClassId} {a : Nat → Nat} {A : Nat → Prop} {r : Int32} {M' : Mem} (C : Cx p s m args meth c cX8_hours 3 RX8 (some .int) D cI cZ A)  (x1 : Int32) (M : Mem) (H : Heap) (locs : List Loc) (ls : Array Slot) (hf : fX8_hours x1 M = some (r, M')) (hst : St D (wB cI cZ a) A s.heap H locs M) (hl : lv_has ls 3 [(0, .ref (a 0)), (1, .int x1)]) : Wi p l e { frames := 5, cells := 0, slots := 0, locals := 116 } s m args below meth c D (wB cI cZ a) A r M' H locs (F0 m 0 ls []) := by
  unfold fX8_hours at hf
  obtain ⟨hx, hb, hml, hown, hU, hr, hlk, hK, hA⟩ := id C
  refine lv_iload_n hx hb dX8_hours_0 rfl (lv_at hl 1 rfl) ?_
  refine lv_iconst (v := 1) hx hb dX8_hours_1 (by decide) ?_
  refine lv_icmp_lt (tgt := 26) hx hb dX8_hours_2 (by decide) (fun c_2 => ?_) (fun c_2 => ?_)
  · have hf := ifp c_2 hf
    refine lv_iconst (v := -1) hx hb dX8_hours_26 (by decide) ?_
    obtain ⟨e1, e2⟩ := sinj hf
    subst e1
    subst e2
    exact w_iret C hst dX8_hours_27
  · have hf := ifn c_2 hf
    refine lv_iload_n hx hb dX8_hours_5 rfl (lv_at hl 1 rfl) ?_
    refine lv_bipush (v := 48) hx hb dX8_hours_6 (by decide) ?_
    refine lv_icmp_gt (tgt := 26) hx hb dX8_hours_8 (by decide) (fun c_8 => ?_) (fun c_8 => ?_)
    · have hf := ifp c_8 hf
      refine lv_iconst (v := -1) hx hb dX8_hours_26 (by decide) ?_
      obtain ⟨e1, e2⟩ := sinj hf
      subst e1
      subst e2
      exact w_iret C hst dX8_hours_27
    · have hf := ifn c_8 hf
      refine lv_aload_n hx hb dX8_hours_11 rfl (lv_at hl 0 rfl) ?_
      refine gf_X8_10 C hst dX8_hours_12 ?_
      obtain ⟨r_15, M_15, hc_15, hf⟩ := obi_some hf
      refine w_cVi (As := []) (rest := []) C (wB_ad cI cZ a) (mX3_now l D cI cZ a  M r_15 M_15 hc_15) calX3_now cavX3_now (mU1 234 rfl rfl) hst hl.1 1 3 rfl rfl rfl rfl (Nat.le_of_ble_eq_true rfl) ⟨Nat.le_of_ble_eq_true rfl, Nat.le_of_ble_eq_true rfl⟩ dX8_hours_15 (fun H locs hst => ?_)
      refine lv_iload_n hx hb dX8_hours_18 rfl (lv_at hl 1 rfl) ?_
      refine lv_iadd hx hb dX8_hours_19 ?_
      refine lv_sipush (v := 2000) hx hb dX8_hours_20 (by decide) ?_
      refine lv_icmp_lt (tgt := 28) hx hb dX8_hours_23 (by decide) (fun c_23 => ?_) (fun c_23 => ?_)
      · have hf := ifp c_23 hf
        refine lv_iconst (v := 0) hx hb dX8_hours_28 (by decide) ?_
        refine lv_istore_n (lv' := [(2, .int (0 : Int32)), (0, .ref (a 0)), (1, .int x1)]) hx hb dX8_hours_29 rfl hl (by decide) rfl (fun ls hl => ?_)
        exact tX8_hours_30 C  fu x1 (0 : Int32) M_15 _ _ _ hf hst (lv_sub hl [1, 2, 0] rfl)
      · have hf := ifn c_23 hf
        refine lv_iconst (v := -1) hx hb dX8_hours_26 (by decide) ?_
        obtain ⟨e1, e2⟩ := sinj hf
        subst e1
        subst e2
        exact w_iret C hst dX8_hours_27
set_option maxRecDepth 100000 in
theorem mX8_hours (l : Launch) (D : va_G) (cI cZ : ClassId) (a : Nat → Nat) (x1 : Int32) (M : Mem) (r : Int32) (M' : Mem) (hf : fX8_hours x1 M = some (r, M')) : MI l D cI cZ (wB cI cZ a) yX8_hours cX8_hours 3 (some .int) 5 116 [.ref (a 0), .int x1] M r M' :=
  MI.of (by decide) (Nat.le_of_ble_eq_true rfl) (fun p e s m args below meth c A C hst ls hl => kX8_hours_0 C x1 M s.heap [] ls hf hst hl)

def fX8_look (x1 : Int32) (M : Mem) : Res :=
  (if x1 = (0 : Int32) then obi (fX3_now  M) (fun r_44 M_44 => some (r_44, M_44)) else (if x1 = (1 : Int32) then obi (fX4_begunCount  M) (fun r_52 M_52 => some (r_52, M_52)) else (if x1 = (2 : Int32) then obi (fX4_runningCount  M) (fun r_60 M_60 => some (r_60, M_60)) else (if x1 = (3 : Int32) then obi (fX2_count  M) (fun r_68 M_68 => some (r_68, M_68)) else (if x1 = (4 : Int32) then obi (fX2_openCount  M) (fun r_76 M_76 => some (r_76, M_76)) else (if x1 = (5 : Int32) then some ((M 0 8), M) else some ((-1 : Int32), M)))))))
theorem calX8_look : Cal yX8_look cX8_look 2 (some .int) 1 := ⟨(mU2 114 rfl rfl), (mU1 1 rfl rfl), by decide +kernel⟩
theorem cavX8_look : CalV yX8_look := ⟨(mU2 112 rfl rfl), (mU2 113 rfl rfl)⟩
set_option maxHeartbeats 4000000 in
set_option maxRecDepth 100000 in
theorem kX8_look_0 {p : Program} {l : Launch} {e : Env} {s : State} {m : MethodId} {args : Array Value} {below : List Frame} {meth : Method} {c : Code} {D : va_G} {cI cZ : ClassId} {a : Nat → Nat} {A : Nat → Prop} {r : Int32} {M' : Mem} (C : Cx p s m args meth c cX8_look 2 RX8 (some .int) D cI cZ A)  (x1 : Int32) (M : Mem) (H : Heap) (locs : List Loc) (ls : Array Slot) (hf : fX8_look x1 M = some (r, M')) (hst : St D (wB cI cZ a) A s.heap H locs M) (hl : lv_has ls 2 [(0, .ref (a 0)), (1, .int x1)]) : Wi p l e { frames := 1, cells := 0, slots := 0, locals := 22 } s m args below meth c D (wB cI cZ a) A r M' H locs (F0 m 0 ls []) := by
  unfold fX8_look at hf
  obtain ⟨hx, hb, hml, hown, hU, hr, hlk, hK, hA⟩ := id C
  refine lv_iload_n hx hb dX8_look_0 rfl (lv_at hl 1 rfl) ?_
  by_cases c_1_0 : x1 = (0 : Int32)
  · have hf := ifp c_1_0 hf
    refine lv_tableIn (tgt := 40) hx hb dX8_look_1 (by rw [c_1_0]; decide) (by rw [c_1_0]; decide) (by rw [c_1_0]; rfl) (by decide) ?_
    refine lv_aload_n hx hb dX8_look_40 rfl (lv_at hl 0 rfl) ?_
    refine gf_X8_10 C hst dX8_look_41 ?_
    obtain ⟨r_44, M_44, hc_44, hf⟩ := obi_some hf
    refine w_cVi (As := []) (rest := []) C (wB_ad cI cZ a) (mX3_now l D cI cZ a  M r_44 M_44 hc_44) calX3_now cavX3_now (mU1 234 rfl rfl) hst hl.1 1 3 rfl rfl rfl rfl (Nat.le_of_ble_eq_true rfl) ⟨Nat.le_of_ble_eq_true rfl, Nat.le_of_ble_eq_true rfl⟩ dX8_look_44 (fun H locs hst => ?_)
    obtain ⟨e1, e2⟩ := sinj hf
    subst e1
    subst e2
    exact w_iret C hst dX8_look_47
  · have hf := ifn c_1_0 hf
    by_cases c_1_1 : x1 = (1 : Int32)
    · have hf := ifp c_1_1 hf
      refine lv_tableIn (tgt := 48) hx hb dX8_look_1 (by rw [c_1_1]; decide) (by rw [c_1_1]; decide) (by rw [c_1_1]; rfl) (by decide) ?_
      refine lv_aload_n hx hb dX8_look_48 rfl (lv_at hl 0 rfl) ?_
      refine gf_X8_19 C hst dX8_look_49 ?_
      obtain ⟨r_52, M_52, hc_52, hf⟩ := obi_some hf
      refine w_cVi (As := []) (rest := []) C (wB_ad cI cZ a) (mX4_begunCount l D cI cZ a  M r_52 M_52 hc_52) calX4_begunCount cavX4_begunCount (mU2 115 rfl rfl) hst hl.1 5 4 rfl rfl rfl rfl (Nat.le_of_ble_eq_true rfl) ⟨Nat.le_of_ble_eq_true rfl, Nat.le_of_ble_eq_true rfl⟩ dX8_look_52 (fun H locs hst => ?_)
      obtain ⟨e1, e2⟩ := sinj hf
      subst e1
      subst e2
      exact w_iret C hst dX8_look_55
    · have hf := ifn c_1_1 hf
      by_cases c_1_2 : x1 = (2 : Int32)
      · have hf := ifp c_1_2 hf
        refine lv_tableIn (tgt := 56) hx hb dX8_look_1 (by rw [c_1_2]; decide) (by rw [c_1_2]; decide) (by rw [c_1_2]; rfl) (by decide) ?_
        refine lv_aload_n hx hb dX8_look_56 rfl (lv_at hl 0 rfl) ?_
        refine gf_X8_19 C hst dX8_look_57 ?_
        obtain ⟨r_60, M_60, hc_60, hf⟩ := obi_some hf
        refine w_cVi (As := []) (rest := []) C (wB_ad cI cZ a) (mX4_runningCount l D cI cZ a  M r_60 M_60 hc_60) calX4_runningCount cavX4_runningCount (mU2 119 rfl rfl) hst hl.1 5 4 rfl rfl rfl rfl (Nat.le_of_ble_eq_true rfl) ⟨Nat.le_of_ble_eq_true rfl, Nat.le_of_ble_eq_true rfl⟩ dX8_look_60 (fun H locs hst => ?_)
        obtain ⟨e1, e2⟩ := sinj hf
        subst e1
        subst e2
        exact w_iret C hst dX8_look_63
      · have hf := ifn c_1_2 hf
        by_cases c_1_3 : x1 = (3 : Int32)
        · have hf := ifp c_1_3 hf
          refine lv_tableIn (tgt := 64) hx hb dX8_look_1 (by rw [c_1_3]; decide) (by rw [c_1_3]; decide) (by rw [c_1_3]; rfl) (by decide) ?_
          refine lv_aload_n hx hb dX8_look_64 rfl (lv_at hl 0 rfl) ?_
          refine gf_X8_42 C hst dX8_look_65 ?_
          obtain ⟨r_68, M_68, hc_68, hf⟩ := obi_some hf
          refine w_cVi (As := []) (rest := []) C (wB_ad cI cZ a) (mX2_count l D cI cZ a  M r_68 M_68 hc_68) calX2_count cavX2_count (mU2 123 rfl rfl) hst hl.1 14 2 rfl rfl rfl rfl (Nat.le_of_ble_eq_true rfl) ⟨Nat.le_of_ble_eq_true rfl, Nat.le_of_ble_eq_true rfl⟩ dX8_look_68 (fun H locs hst => ?_)
          obtain ⟨e1, e2⟩ := sinj hf
          subst e1
          subst e2
          exact w_iret C hst dX8_look_71
        · have hf := ifn c_1_3 hf
          by_cases c_1_4 : x1 = (4 : Int32)
          · have hf := ifp c_1_4 hf
            refine lv_tableIn (tgt := 72) hx hb dX8_look_1 (by rw [c_1_4]; decide) (by rw [c_1_4]; decide) (by rw [c_1_4]; rfl) (by decide) ?_
            refine lv_aload_n hx hb dX8_look_72 rfl (lv_at hl 0 rfl) ?_
            refine gf_X8_42 C hst dX8_look_73 ?_
            obtain ⟨r_76, M_76, hc_76, hf⟩ := obi_some hf
            refine w_cVi (As := []) (rest := []) C (wB_ad cI cZ a) (mX2_openCount l D cI cZ a  M r_76 M_76 hc_76) calX2_openCount cavX2_openCount (mU2 127 rfl rfl) hst hl.1 14 2 rfl rfl rfl rfl (Nat.le_of_ble_eq_true rfl) ⟨Nat.le_of_ble_eq_true rfl, Nat.le_of_ble_eq_true rfl⟩ dX8_look_76 (fun H locs hst => ?_)
            obtain ⟨e1, e2⟩ := sinj hf
            subst e1
            subst e2
            exact w_iret C hst dX8_look_79
          · have hf := ifn c_1_4 hf
            by_cases c_1_5 : x1 = (5 : Int32)
            · have hf := ifp c_1_5 hf
              refine lv_tableIn (tgt := 80) hx hb dX8_look_1 (by rw [c_1_5]; decide) (by rw [c_1_5]; decide) (by rw [c_1_5]; rfl) (by decide) ?_
              refine lv_aload_n hx hb dX8_look_80 rfl (lv_at hl 0 rfl) ?_
              refine gf_X8_71 C hst dX8_look_81 ?_
              obtain ⟨e1, e2⟩ := sinj hf
              subst e1
              subst e2
              exact w_iret C hst dX8_look_84
            · have hf := ifn c_1_5 hf
              refine lv_tableOut (tgt := 85) hx hb dX8_look_1 (tsO 5 (fun k hk => by rcases (show k = 0 ∨ k = 1 ∨ k = 2 ∨ k = 3 ∨ k = 4 ∨ k = 5 by omega) with rfl | rfl | rfl | rfl | rfl | rfl <;> assumption)) (by decide) ?_
              refine lv_iconst (v := -1) hx hb dX8_look_85 (by decide) ?_
              obtain ⟨e1, e2⟩ := sinj hf
              subst e1
              subst e2
              exact w_iret C hst dX8_look_86
set_option maxRecDepth 100000 in
theorem mX8_look (l : Launch) (D : va_G) (cI cZ : ClassId) (a : Nat → Nat) (x1 : Int32) (M : Mem) (r : Int32) (M' : Mem) (hf : fX8_look x1 M = some (r, M')) : MI l D cI cZ (wB cI cZ a) yX8_look cX8_look 2 (some .int) 1 22 [.ref (a 0), .int x1] M r M' :=
  MI.of (by decide) (Nat.le_of_ble_eq_true rfl) (fun p e s m args below meth c A C hst ls hl => kX8_look_0 C x1 M s.heap [] ls hf hst hl)

def fX8_machine (x1 x2 : Int32) (M : Mem) : Res :=
  obi (fX4_isKnown x1 M) (fun r_5 M_5 => (if r_5 = 0 then some ((-1 : Int32), M_5) else (if x2 = (0 : Int32) then obi (fX4_serviceOf x1 M_5) (fun r_49 M_49 => some (r_49, M_49)) else (if x2 = (1 : Int32) then obi (fX4_priceOf x1 M_5) (fun r_58 M_58 => some (r_58, M_58)) else (if x2 = (2 : Int32) then obi (fX4_begunAt x1 M_5) (fun r_67 M_67 => some (r_67, M_67)) else (if x2 = (3 : Int32) then obi (fX4_stoppedAt x1 M_5) (fun r_76 M_76 => some (r_76, M_76)) else some ((-1 : Int32), M_5)))))))
theorem calX8_machine : Cal yX8_machine cX8_machine 3 (some .int) 2 := ⟨(mU2 134 rfl rfl), (mU1 1 rfl rfl), by decide +kernel⟩
theorem cavX8_machine : CalV yX8_machine := ⟨(mU2 132 rfl rfl), (mU2 133 rfl rfl)⟩
set_option maxHeartbeats 4000000 in
set_option maxRecDepth 100000 in
theorem kX8_machine_0 {p : Program} {l : Launch} {e : Env} {s : State} {m : MethodId} {args : Array Value} {below : List Frame} {meth : Method} {c : Code} {D : va_G} {cI cZ : ClassId} {a : Nat → Nat} {A : Nat → Prop} {r : Int32} {M' : Mem} (C : Cx p s m args meth c cX8_machine 3 RX8 (some .int) D cI cZ A)  (x1 x2 : Int32) (M : Mem) (H : Heap) (locs : List Loc) (ls : Array Slot) (hf : fX8_machine x1 x2 M = some (r, M')) (hst : St D (wB cI cZ a) A s.heap H locs M) (hl : lv_has ls 3 [(0, .ref (a 0)), (1, .int x1), (2, .int x2)]) : Wi p l e { frames := 1, cells := 0, slots := 0, locals := 21 } s m args below meth c D (wB cI cZ a) A r M' H locs (F0 m 0 ls []) := by
  unfold fX8_machine at hf
  obtain ⟨hx, hb, hml, hown, hU, hr, hlk, hK, hA⟩ := id C
  refine lv_aload_n hx hb dX8_machine_0 rfl (lv_at hl 0 rfl) ?_
  refine gf_X8_19 C hst dX8_machine_1 ?_
  refine lv_iload_n hx hb dX8_machine_4 rfl (lv_at hl 1 rfl) ?_
  obtain ⟨r_5, M_5, hc_5, hf⟩ := obi_some hf
  refine w_cVi (As := [.int x1]) (rest := []) C (wB_ad cI cZ a) (mX4_isKnown l D cI cZ a x1 M r_5 M_5 hc_5) calX4_isKnown cavX4_isKnown (mU2 135 rfl rfl) hst hl.1 5 4 rfl rfl rfl rfl (Nat.le_of_ble_eq_true rfl) ⟨Nat.le_of_ble_eq_true rfl, Nat.le_of_ble_eq_true rfl⟩ dX8_machine_5 (fun H locs hst => ?_)
  refine lv_if_ne (tgt := 13) hx hb dX8_machine_8 (by decide) (fun c_8 => ?_) (fun c_8 => ?_)
  · have hf := ifn c_8 hf
    refine lv_iload_n hx hb dX8_machine_13 rfl (lv_at hl 2 rfl) ?_
    by_cases c_14_0 : x2 = (0 : Int32)
    · have hf := ifp c_14_0 hf
      refine lv_tableIn (tgt := 44) hx hb dX8_machine_14 (by rw [c_14_0]; decide) (by rw [c_14_0]; decide) (by rw [c_14_0]; rfl) (by decide) ?_
      refine lv_aload_n hx hb dX8_machine_44 rfl (lv_at hl 0 rfl) ?_
      refine gf_X8_19 C hst dX8_machine_45 ?_
      refine lv_iload_n hx hb dX8_machine_48 rfl (lv_at hl 1 rfl) ?_
      obtain ⟨r_49, M_49, hc_49, hf⟩ := obi_some hf
      refine w_cVi (As := [.int x1]) (rest := []) C (wB_ad cI cZ a) (mX4_serviceOf l D cI cZ a x1 M_5 r_49 M_49 hc_49) calX4_serviceOf cavX4_serviceOf (mU2 14 rfl rfl) hst hl.1 5 4 rfl rfl rfl rfl (Nat.le_of_ble_eq_true rfl) ⟨Nat.le_of_ble_eq_true rfl, Nat.le_of_ble_eq_true rfl⟩ dX8_machine_49 (fun H locs hst => ?_)
      obtain ⟨e1, e2⟩ := sinj hf
      subst e1
      subst e2
      exact w_iret C hst dX8_machine_52
    · have hf := ifn c_14_0 hf
      by_cases c_14_1 : x2 = (1 : Int32)
      · have hf := ifp c_14_1 hf
        refine lv_tableIn (tgt := 53) hx hb dX8_machine_14 (by rw [c_14_1]; decide) (by rw [c_14_1]; decide) (by rw [c_14_1]; rfl) (by decide) ?_
        refine lv_aload_n hx hb dX8_machine_53 rfl (lv_at hl 0 rfl) ?_
        refine gf_X8_19 C hst dX8_machine_54 ?_
        refine lv_iload_n hx hb dX8_machine_57 rfl (lv_at hl 1 rfl) ?_
        obtain ⟨r_58, M_58, hc_58, hf⟩ := obi_some hf
        refine w_cVi (As := [.int x1]) (rest := []) C (wB_ad cI cZ a) (mX4_priceOf l D cI cZ a x1 M_5 r_58 M_58 hc_58) calX4_priceOf cavX4_priceOf (mU2 18 rfl rfl) hst hl.1 5 4 rfl rfl rfl rfl (Nat.le_of_ble_eq_true rfl) ⟨Nat.le_of_ble_eq_true rfl, Nat.le_of_ble_eq_true rfl⟩ dX8_machine_58 (fun H locs hst => ?_)
        obtain ⟨e1, e2⟩ := sinj hf
        subst e1
        subst e2
        exact w_iret C hst dX8_machine_61
      · have hf := ifn c_14_1 hf
        by_cases c_14_2 : x2 = (2 : Int32)
        · have hf := ifp c_14_2 hf
          refine lv_tableIn (tgt := 62) hx hb dX8_machine_14 (by rw [c_14_2]; decide) (by rw [c_14_2]; decide) (by rw [c_14_2]; rfl) (by decide) ?_
          refine lv_aload_n hx hb dX8_machine_62 rfl (lv_at hl 0 rfl) ?_
          refine gf_X8_19 C hst dX8_machine_63 ?_
          refine lv_iload_n hx hb dX8_machine_66 rfl (lv_at hl 1 rfl) ?_
          obtain ⟨r_67, M_67, hc_67, hf⟩ := obi_some hf
          refine w_cVi (As := [.int x1]) (rest := []) C (wB_ad cI cZ a) (mX4_begunAt l D cI cZ a x1 M_5 r_67 M_67 hc_67) calX4_begunAt cavX4_begunAt (mU2 136 rfl rfl) hst hl.1 5 4 rfl rfl rfl rfl (Nat.le_of_ble_eq_true rfl) ⟨Nat.le_of_ble_eq_true rfl, Nat.le_of_ble_eq_true rfl⟩ dX8_machine_67 (fun H locs hst => ?_)
          obtain ⟨e1, e2⟩ := sinj hf
          subst e1
          subst e2
          exact w_iret C hst dX8_machine_70
        · have hf := ifn c_14_2 hf
          by_cases c_14_3 : x2 = (3 : Int32)
          · have hf := ifp c_14_3 hf
            refine lv_tableIn (tgt := 71) hx hb dX8_machine_14 (by rw [c_14_3]; decide) (by rw [c_14_3]; decide) (by rw [c_14_3]; rfl) (by decide) ?_
            refine lv_aload_n hx hb dX8_machine_71 rfl (lv_at hl 0 rfl) ?_
            refine gf_X8_19 C hst dX8_machine_72 ?_
            refine lv_iload_n hx hb dX8_machine_75 rfl (lv_at hl 1 rfl) ?_
            obtain ⟨r_76, M_76, hc_76, hf⟩ := obi_some hf
            refine w_cVi (As := [.int x1]) (rest := []) C (wB_ad cI cZ a) (mX4_stoppedAt l D cI cZ a x1 M_5 r_76 M_76 hc_76) calX4_stoppedAt cavX4_stoppedAt (mU2 140 rfl rfl) hst hl.1 5 4 rfl rfl rfl rfl (Nat.le_of_ble_eq_true rfl) ⟨Nat.le_of_ble_eq_true rfl, Nat.le_of_ble_eq_true rfl⟩ dX8_machine_76 (fun H locs hst => ?_)
            obtain ⟨e1, e2⟩ := sinj hf
            subst e1
            subst e2
            exact w_iret C hst dX8_machine_79
          · have hf := ifn c_14_3 hf
            refine lv_tableOut (tgt := 80) hx hb dX8_machine_14 (tsO 3 (fun k hk => by rcases (show k = 0 ∨ k = 1 ∨ k = 2 ∨ k = 3 by omega) with rfl | rfl | rfl | rfl <;> assumption)) (by decide) ?_
            refine lv_iconst (v := -1) hx hb dX8_machine_80 (by decide) ?_
            obtain ⟨e1, e2⟩ := sinj hf
            subst e1
            subst e2
            exact w_iret C hst dX8_machine_81
  · have hf := ifp c_8 hf
    refine lv_iconst (v := -1) hx hb dX8_machine_11 (by decide) ?_
    obtain ⟨e1, e2⟩ := sinj hf
    subst e1
    subst e2
    exact w_iret C hst dX8_machine_12
set_option maxRecDepth 100000 in
theorem mX8_machine (l : Launch) (D : va_G) (cI cZ : ClassId) (a : Nat → Nat) (x1 x2 : Int32) (M : Mem) (r : Int32) (M' : Mem) (hf : fX8_machine x1 x2 M = some (r, M')) : MI l D cI cZ (wB cI cZ a) yX8_machine cX8_machine 3 (some .int) 1 21 [.ref (a 0), .int x1, .int x2] M r M' :=
  MI.of (by decide) (Nat.le_of_ble_eq_true rfl) (fun p e s m args below meth c A C hst ls hl => kX8_machine_0 C x1 x2 M s.heap [] ls hf hst hl)

def fX8_isTold (x1 : Int32) (M : Mem) : Res :=
  (if x1 < 0 then some ((0 : Int32), M) else obi (fX3_now  M) (fun r_9 M_9 => (if r_9 < x1 then some ((0 : Int32), M_9) else some ((1 : Int32), M_9))))
theorem calX8_isTold : Cal yX8_isTold cX8_isTold 2 (some .boolean) 1 := ⟨(mU2 151 rfl rfl), (mU1 1 rfl rfl), by decide +kernel⟩
theorem cavX8_isTold : CalV yX8_isTold := ⟨(mU2 150 rfl rfl), (mS1 7 rfl)⟩
set_option maxHeartbeats 4000000 in
set_option maxRecDepth 100000 in
theorem kX8_isTold_0 {p : Program} {l : Launch} {e : Env} {s : State} {m : MethodId} {args : Array Value} {below : List Frame} {meth : Method} {c : Code} {D : va_G} {cI cZ : ClassId} {a : Nat → Nat} {A : Nat → Prop} {r : Int32} {M' : Mem} (C : Cx p s m args meth c cX8_isTold 2 RX8 (some .boolean) D cI cZ A)  (x1 : Int32) (M : Mem) (H : Heap) (locs : List Loc) (ls : Array Slot) (hf : fX8_isTold x1 M = some (r, M')) (hst : St D (wB cI cZ a) A s.heap H locs M) (hl : lv_has ls 2 [(0, .ref (a 0)), (1, .int x1)]) : Wi p l e { frames := 1, cells := 0, slots := 0, locals := 20 } s m args below meth c D (wB cI cZ a) A r M' H locs (F0 m 0 ls []) := by
  unfold fX8_isTold at hf
  obtain ⟨hx, hb, hml, hown, hU, hr, hlk, hK, hA⟩ := id C
  refine lv_iload_n hx hb dX8_isTold_0 rfl (lv_at hl 1 rfl) ?_
  refine lv_if_lt (tgt := 19) hx hb dX8_isTold_1 (by decide) (fun c_1 => ?_) (fun c_1 => ?_)
  · have hf := ifp c_1 hf
    refine lv_iconst (v := 0) hx hb dX8_isTold_19 (by decide) ?_
    obtain ⟨e1, e2⟩ := sinj hf
    subst e1
    subst e2
    exact w_zret C rfl hst dX8_isTold_20
  · have hf := ifn c_1 hf
    refine lv_iload_n hx hb dX8_isTold_4 rfl (lv_at hl 1 rfl) ?_
    refine lv_aload_n hx hb dX8_isTold_5 rfl (lv_at hl 0 rfl) ?_
    refine gf_X8_10 C hst dX8_isTold_6 ?_
    obtain ⟨r_9, M_9, hc_9, hf⟩ := obi_some hf
    refine w_cVi (As := []) (rest := [.int x1]) C (wB_ad cI cZ a) (mX3_now l D cI cZ a  M r_9 M_9 hc_9) calX3_now cavX3_now (mU1 234 rfl rfl) hst hl.1 1 3 rfl rfl rfl rfl (Nat.le_of_ble_eq_true rfl) ⟨Nat.le_of_ble_eq_true rfl, Nat.le_of_ble_eq_true rfl⟩ dX8_isTold_9 (fun H locs hst => ?_)
    refine lv_icmp_gt (tgt := 19) hx hb dX8_isTold_12 (by decide) (fun c_12 => ?_) (fun c_12 => ?_)
    · have hf := ifp c_12 hf
      refine lv_iconst (v := 0) hx hb dX8_isTold_19 (by decide) ?_
      obtain ⟨e1, e2⟩ := sinj hf
      subst e1
      subst e2
      exact w_zret C rfl hst dX8_isTold_20
    · have hf := ifn c_12 hf
      refine lv_iconst (v := 1) hx hb dX8_isTold_15 (by decide) ?_
      refine lv_goto (tgt := 20) hx hb dX8_isTold_16 (by decide) ?_
      obtain ⟨e1, e2⟩ := sinj hf
      subst e1
      subst e2
      exact w_zret C rfl hst dX8_isTold_20
set_option maxRecDepth 100000 in
theorem mX8_isTold (l : Launch) (D : va_G) (cI cZ : ClassId) (a : Nat → Nat) (x1 : Int32) (M : Mem) (r : Int32) (M' : Mem) (hf : fX8_isTold x1 M = some (r, M')) : MI l D cI cZ (wB cI cZ a) yX8_isTold cX8_isTold 2 (some .boolean) 1 20 [.ref (a 0), .int x1] M r M' :=
  MI.of (by decide) (Nat.le_of_ble_eq_true rfl) (fun p e s m args below meth c A C hst ls hl => kX8_isTold_0 C x1 M s.heap [] ls hf hst hl)

def fX8_cost (x1 x2 : Int32) (M : Mem) : Res :=
  obi (fX8_isService x1 M) (fun r_1 M_1 => (if r_1 = 0 then some ((-1 : Int32), M_1) else obi (fX8_isTold x2 M_1) (fun r_9 M_9 => (if r_9 = 0 then some ((-1 : Int32), M_9) else obi (fX3_costOf x1 x2 M_9) (fun r_23 M_23 => some (r_23, M_23))))))
theorem calX8_cost : Cal yX8_cost cX8_cost 3 (some .int) 2 := ⟨(mU2 147 rfl rfl), (mU1 1 rfl rfl), by decide +kernel⟩
theorem cavX8_cost : CalV yX8_cost := ⟨(mU2 145 rfl rfl), (mU2 146 rfl rfl)⟩
set_option maxHeartbeats 4000000 in
set_option maxRecDepth 100000 in
theorem kX8_cost_0 {p : Program} {l : Launch} {e : Env} {s : State} {m : MethodId} {args : Array Value} {below : List Frame} {meth : Method} {c : Code} {D : va_G} {cI cZ : ClassId} {a : Nat → Nat} {A : Nat → Prop} {r : Int32} {M' : Mem} (C : Cx p s m args meth c cX8_cost 3 RX8 (some .int) D cI cZ A)  (x1 x2 : Int32) (M : Mem) (H : Heap) (locs : List Loc) (ls : Array Slot) (hf : fX8_cost x1 x2 M = some (r, M')) (hst : St D (wB cI cZ a) A s.heap H locs M) (hl : lv_has ls 3 [(0, .ref (a 0)), (1, .int x1), (2, .int x2)]) : Wi p l e { frames := 2, cells := 0, slots := 0, locals := 41 } s m args below meth c D (wB cI cZ a) A r M' H locs (F0 m 0 ls []) := by
  unfold fX8_cost at hf
  obtain ⟨hx, hb, hml, hown, hU, hr, hlk, hK, hA⟩ := id C
  refine lv_iload_n hx hb dX8_cost_0 rfl (lv_at hl 1 rfl) ?_
  obtain ⟨r_1, M_1, hc_1, hf⟩ := obi_some hf
  refine w_cSi (As := [.int x1]) (rest := []) C (wB_ad cI cZ a) (mX8_isService l D cI cZ a x1 M r_1 M_1 hc_1) calX8_isService casX8_isService (mU1 201 rfl rfl) hst hl.1 rfl rfl (Nat.le_of_ble_eq_true rfl) ⟨Nat.le_of_ble_eq_true rfl, Nat.le_of_ble_eq_true rfl⟩ dX8_cost_1 (fun H locs hst => ?_)
  refine lv_if_eq (tgt := 15) hx hb dX8_cost_4 (by decide) (fun c_4 => ?_) (fun c_4 => ?_)
  · have hf := ifp c_4 hf
    refine lv_iconst (v := -1) hx hb dX8_cost_15 (by decide) ?_
    obtain ⟨e1, e2⟩ := sinj hf
    subst e1
    subst e2
    exact w_iret C hst dX8_cost_16
  · have hf := ifn c_4 hf
    refine lv_aload_n hx hb dX8_cost_7 rfl (lv_at hl 0 rfl) ?_
    refine lv_iload_n hx hb dX8_cost_8 rfl (lv_at hl 2 rfl) ?_
    obtain ⟨r_9, M_9, hc_9, hf⟩ := obi_some hf
    refine w_cVi (As := [.int x2]) (rest := []) C (wB_ad cI cZ a) (mX8_isTold l D cI cZ a x2 M_1 r_9 M_9 hc_9) calX8_isTold cavX8_isTold (mU2 148 rfl rfl) hst hl.1 0 8 rfl rfl rfl rfl (Nat.le_of_ble_eq_true rfl) ⟨Nat.le_of_ble_eq_true rfl, Nat.le_of_ble_eq_true rfl⟩ dX8_cost_9 (fun H locs hst => ?_)
    refine lv_if_ne (tgt := 17) hx hb dX8_cost_12 (by decide) (fun c_12 => ?_) (fun c_12 => ?_)
    · have hf := ifn c_12 hf
      refine lv_aload_n hx hb dX8_cost_17 rfl (lv_at hl 0 rfl) ?_
      refine gf_X8_10 C hst dX8_cost_18 ?_
      refine lv_iload_n hx hb dX8_cost_21 rfl (lv_at hl 1 rfl) ?_
      refine lv_iload_n hx hb dX8_cost_22 rfl (lv_at hl 2 rfl) ?_
      obtain ⟨r_23, M_23, hc_23, hf⟩ := obi_some hf
      refine w_cVi (As := [.int x1, .int x2]) (rest := []) C (wB_ad cI cZ a) (mX3_costOf l D cI cZ a x1 x2 M_9 r_23 M_23 hc_23) calX3_costOf cavX3_costOf (mU2 86 rfl rfl) hst hl.1 1 3 rfl rfl rfl rfl (Nat.le_of_ble_eq_true rfl) ⟨Nat.le_of_ble_eq_true rfl, Nat.le_of_ble_eq_true rfl⟩ dX8_cost_23 (fun H locs hst => ?_)
      obtain ⟨e1, e2⟩ := sinj hf
      subst e1
      subst e2
      exact w_iret C hst dX8_cost_26
    · have hf := ifp c_12 hf
      refine lv_iconst (v := -1) hx hb dX8_cost_15 (by decide) ?_
      obtain ⟨e1, e2⟩ := sinj hf
      subst e1
      subst e2
      exact w_iret C hst dX8_cost_16
set_option maxRecDepth 100000 in
theorem mX8_cost (l : Launch) (D : va_G) (cI cZ : ClassId) (a : Nat → Nat) (x1 x2 : Int32) (M : Mem) (r : Int32) (M' : Mem) (hf : fX8_cost x1 x2 M = some (r, M')) : MI l D cI cZ (wB cI cZ a) yX8_cost cX8_cost 3 (some .int) 2 41 [.ref (a 0), .int x1, .int x2] M r M' :=
  MI.of (by decide) (Nat.le_of_ble_eq_true rfl) (fun p e s m args below meth c A C hst ls hl => kX8_cost_0 C x1 x2 M s.heap [] ls hf hst hl)

def fX8_season (x1 x2 x3 : Int32) (M : Mem) : Res :=
  obi (fX8_isService x1 M) (fun r_1 M_1 => (if r_1 = 0 then some ((-1 : Int32), M_1) else obi (fX8_isTold x2 M_1) (fun r_9 M_9 => (if r_9 = 0 then some ((-1 : Int32), M_9) else (if x3 = (2 : Int32) then obi (fX8_isJump x1 x2 M_9) (fun r_25 M_25 => (if r_25 = 0 then some ((0 : Int32), M_25) else some ((1 : Int32), M_25))) else (if x3 < 0 then some ((-1 : Int32), M_9) else (if (2 : Int32) < x3 then some ((-1 : Int32), M_9) else obi (fX5_find x1 x2 M_9) (fun r_52 M_52 => (if r_52 = 0 then some ((-1 : Int32), M_52) else (if x3 = 0 then obi (fX5_expected  M_52) (fun r_68 M_68 => some (r_68, M_68)) else obi (fX5_spread  M_52) (fun r_78 M_78 => some (r_78, M_78))))))))))))
theorem calX8_season : Cal yX8_season cX8_season 4 (some .int) 3 := ⟨(mU2 155 rfl rfl), (mU1 1 rfl rfl), by decide +kernel⟩
theorem cavX8_season : CalV yX8_season := ⟨(mU2 153 rfl rfl), (mU2 154 rfl rfl)⟩
set_option maxHeartbeats 4000000 in
set_option maxRecDepth 100000 in
theorem kX8_season_0 {p : Program} {l : Launch} {e : Env} {s : State} {m : MethodId} {args : Array Value} {below : List Frame} {meth : Method} {c : Code} {D : va_G} {cI cZ : ClassId} {a : Nat → Nat} {A : Nat → Prop} {r : Int32} {M' : Mem} (C : Cx p s m args meth c cX8_season 4 RX8 (some .int) D cI cZ A)  (x1 x2 x3 : Int32) (M : Mem) (H : Heap) (locs : List Loc) (ls : Array Slot) (hf : fX8_season x1 x2 x3 M = some (r, M')) (hst : St D (wB cI cZ a) A s.heap H locs M) (hl : lv_has ls 4 [(0, .ref (a 0)), (1, .int x1), (2, .int x2), (3, .int x3)]) : Wi p l e { frames := 4, cells := 0, slots := 0, locals := 94 } s m args below meth c D (wB cI cZ a) A r M' H locs (F0 m 0 ls []) := by
  unfold fX8_season at hf
  obtain ⟨hx, hb, hml, hown, hU, hr, hlk, hK, hA⟩ := id C
  refine lv_iload_n hx hb dX8_season_0 rfl (lv_at hl 1 rfl) ?_
  obtain ⟨r_1, M_1, hc_1, hf⟩ := obi_some hf
  refine w_cSi (As := [.int x1]) (rest := []) C (wB_ad cI cZ a) (mX8_isService l D cI cZ a x1 M r_1 M_1 hc_1) calX8_isService casX8_isService (mU1 201 rfl rfl) hst hl.1 rfl rfl (Nat.le_of_ble_eq_true rfl) ⟨Nat.le_of_ble_eq_true rfl, Nat.le_of_ble_eq_true rfl⟩ dX8_season_1 (fun H locs hst => ?_)
  refine lv_if_eq (tgt := 15) hx hb dX8_season_4 (by decide) (fun c_4 => ?_) (fun c_4 => ?_)
  · have hf := ifp c_4 hf
    refine lv_iconst (v := -1) hx hb dX8_season_15 (by decide) ?_
    obtain ⟨e1, e2⟩ := sinj hf
    subst e1
    subst e2
    exact w_iret C hst dX8_season_16
  · have hf := ifn c_4 hf
    refine lv_aload_n hx hb dX8_season_7 rfl (lv_at hl 0 rfl) ?_
    refine lv_iload_n hx hb dX8_season_8 rfl (lv_at hl 2 rfl) ?_
    obtain ⟨r_9, M_9, hc_9, hf⟩ := obi_some hf
    refine w_cVi (As := [.int x2]) (rest := []) C (wB_ad cI cZ a) (mX8_isTold l D cI cZ a x2 M_1 r_9 M_9 hc_9) calX8_isTold cavX8_isTold (mU2 148 rfl rfl) hst hl.1 0 8 rfl rfl rfl rfl (Nat.le_of_ble_eq_true rfl) ⟨Nat.le_of_ble_eq_true rfl, Nat.le_of_ble_eq_true rfl⟩ dX8_season_9 (fun H locs hst => ?_)
    refine lv_if_ne (tgt := 17) hx hb dX8_season_12 (by decide) (fun c_12 => ?_) (fun c_12 => ?_)
    · have hf := ifn c_12 hf
      refine lv_iload_n hx hb dX8_season_17 rfl (lv_at hl 3 rfl) ?_
      refine lv_iconst (v := 2) hx hb dX8_season_18 (by decide) ?_
      refine lv_icmp_ne (tgt := 37) hx hb dX8_season_19 (by decide) (fun c_19 => ?_) (fun c_19 => ?_)
      · have hf := ifn c_19 hf
        refine lv_iload_n hx hb dX8_season_37 rfl (lv_at hl 3 rfl) ?_
        refine lv_if_lt (tgt := 58) hx hb dX8_season_38 (by decide) (fun c_38 => ?_) (fun c_38 => ?_)
        · have hf := ifp c_38 hf
          refine lv_iconst (v := -1) hx hb dX8_season_58 (by decide) ?_
          obtain ⟨e1, e2⟩ := sinj hf
          subst e1
          subst e2
          exact w_iret C hst dX8_season_59
        · have hf := ifn c_38 hf
          refine lv_iload_n hx hb dX8_season_41 rfl (lv_at hl 3 rfl) ?_
          refine lv_iconst (v := 2) hx hb dX8_season_42 (by decide) ?_
          refine lv_icmp_gt (tgt := 58) hx hb dX8_season_43 (by decide) (fun c_43 => ?_) (fun c_43 => ?_)
          · have hf := ifp c_43 hf
            refine lv_iconst (v := -1) hx hb dX8_season_58 (by decide) ?_
            obtain ⟨e1, e2⟩ := sinj hf
            subst e1
            subst e2
            exact w_iret C hst dX8_season_59
          · have hf := ifn c_43 hf
            refine lv_aload_n hx hb dX8_season_46 rfl (lv_at hl 0 rfl) ?_
            refine gf_X8_28 C hst dX8_season_47 ?_
            refine lv_iload_n hx hb dX8_season_50 rfl (lv_at hl 1 rfl) ?_
            refine lv_iload_n hx hb dX8_season_51 rfl (lv_at hl 2 rfl) ?_
            obtain ⟨r_52, M_52, hc_52, hf⟩ := obi_some hf
            refine w_cVi (As := [.int x1, .int x2]) (rest := []) C (wB_ad cI cZ a) (mX5_find l D cI cZ a x1 x2 M_9 r_52 M_52 hc_52) calX5_find cavX5_find (mU2 55 rfl rfl) hst hl.1 10 5 rfl rfl rfl rfl (Nat.le_of_ble_eq_true rfl) ⟨Nat.le_of_ble_eq_true rfl, Nat.le_of_ble_eq_true rfl⟩ dX8_season_52 (fun H locs hst => ?_)
            refine lv_if_ne (tgt := 60) hx hb dX8_season_55 (by decide) (fun c_55 => ?_) (fun c_55 => ?_)
            · have hf := ifn c_55 hf
              refine lv_iload_n hx hb dX8_season_60 rfl (lv_at hl 3 rfl) ?_
              refine lv_if_ne (tgt := 74) hx hb dX8_season_61 (by decide) (fun c_61 => ?_) (fun c_61 => ?_)
              · have hf := ifn c_61 hf
                refine lv_aload_n hx hb dX8_season_74 rfl (lv_at hl 0 rfl) ?_
                refine gf_X8_28 C hst dX8_season_75 ?_
                obtain ⟨r_78, M_78, hc_78, hf⟩ := obi_some hf
                refine w_cVi (As := []) (rest := []) C (wB_ad cI cZ a) (mX5_spread l D cI cZ a  M_52 r_78 M_78 hc_78) calX5_spread cavX5_spread (mU2 82 rfl rfl) hst hl.1 10 5 rfl rfl rfl rfl (Nat.le_of_ble_eq_true rfl) ⟨Nat.le_of_ble_eq_true rfl, Nat.le_of_ble_eq_true rfl⟩ dX8_season_78 (fun H locs hst => ?_)
                obtain ⟨e1, e2⟩ := sinj hf
                subst e1
                subst e2
                exact w_iret C hst dX8_season_81
              · have hf := ifp c_61 hf
                refine lv_aload_n hx hb dX8_season_64 rfl (lv_at hl 0 rfl) ?_
                refine gf_X8_28 C hst dX8_season_65 ?_
                obtain ⟨r_68, M_68, hc_68, hf⟩ := obi_some hf
                refine w_cVi (As := []) (rest := []) C (wB_ad cI cZ a) (mX5_expected l D cI cZ a  M_52 r_68 M_68 hc_68) calX5_expected cavX5_expected (mU2 78 rfl rfl) hst hl.1 10 5 rfl rfl rfl rfl (Nat.le_of_ble_eq_true rfl) ⟨Nat.le_of_ble_eq_true rfl, Nat.le_of_ble_eq_true rfl⟩ dX8_season_68 (fun H locs hst => ?_)
                refine lv_goto (tgt := 81) hx hb dX8_season_71 (by decide) ?_
                obtain ⟨e1, e2⟩ := sinj hf
                subst e1
                subst e2
                exact w_iret C hst dX8_season_81
            · have hf := ifp c_55 hf
              refine lv_iconst (v := -1) hx hb dX8_season_58 (by decide) ?_
              obtain ⟨e1, e2⟩ := sinj hf
              subst e1
              subst e2
              exact w_iret C hst dX8_season_59
      · have hf := ifp c_19 hf
        refine lv_aload_n hx hb dX8_season_22 rfl (lv_at hl 0 rfl) ?_
        refine lv_iload_n hx hb dX8_season_23 rfl (lv_at hl 1 rfl) ?_
        refine lv_iload_n hx hb dX8_season_24 rfl (lv_at hl 2 rfl) ?_
        obtain ⟨r_25, M_25, hc_25, hf⟩ := obi_some hf
        refine w_cVi (As := [.int x1, .int x2]) (rest := []) C (wB_ad cI cZ a) (mX8_isJump l D cI cZ a x1 x2 M_9 r_25 M_25 hc_25) calX8_isJump cavX8_isJump (mU2 51 rfl rfl) hst hl.1 0 8 rfl rfl rfl rfl (Nat.le_of_ble_eq_true rfl) ⟨Nat.le_of_ble_eq_true rfl, Nat.le_of_ble_eq_true rfl⟩ dX8_season_25 (fun H locs hst => ?_)
        refine lv_if_eq (tgt := 35) hx hb dX8_season_28 (by decide) (fun c_28 => ?_) (fun c_28 => ?_)
        · have hf := ifp c_28 hf
          refine lv_iconst (v := 0) hx hb dX8_season_35 (by decide) ?_
          obtain ⟨e1, e2⟩ := sinj hf
          subst e1
          subst e2
          exact w_iret C hst dX8_season_36
        · have hf := ifn c_28 hf
          refine lv_iconst (v := 1) hx hb dX8_season_31 (by decide) ?_
          refine lv_goto (tgt := 36) hx hb dX8_season_32 (by decide) ?_
          obtain ⟨e1, e2⟩ := sinj hf
          subst e1
          subst e2
          exact w_iret C hst dX8_season_36
    · have hf := ifp c_12 hf
      refine lv_iconst (v := -1) hx hb dX8_season_15 (by decide) ?_
      obtain ⟨e1, e2⟩ := sinj hf
      subst e1
      subst e2
      exact w_iret C hst dX8_season_16
set_option maxRecDepth 100000 in
theorem mX8_season (l : Launch) (D : va_G) (cI cZ : ClassId) (a : Nat → Nat) (x1 x2 x3 : Int32) (M : Mem) (r : Int32) (M' : Mem) (hf : fX8_season x1 x2 x3 M = some (r, M')) : MI l D cI cZ (wB cI cZ a) yX8_season cX8_season 4 (some .int) 4 94 [.ref (a 0), .int x1, .int x2, .int x3] M r M' :=
  MI.of (by decide) (Nat.le_of_ble_eq_true rfl) (fun p e s m args below meth c A C hst ls hl => kX8_season_0 C x1 x2 x3 M s.heap [] ls hf hst hl)

def fX8_creeps (x1 : Int32) (M : Mem) : Res :=
  obi (fX3_now  M) (fun r_4 M_4 => obi (fX8_isService x1 M_4) (fun r_12 M_12 => (if r_12 = 0 then some ((-1 : Int32), M_12) else (if (7 : Int32) ≤ (r_4 / (24 : Int32)) then obi (fX7_isCreeping x1 ((r_4 / (24 : Int32)) - (7 : Int32)) M_12) (fun r_35 M_35 => (if r_35 = 0 then some ((0 : Int32), M_35) else some ((1 : Int32), M_35))) else some ((-1 : Int32), M_12)))))
theorem calX8_creeps : Cal yX8_creeps cX8_creeps 3 (some .int) 1 := ⟨(mU2 159 rfl rfl), (mU1 1 rfl rfl), by decide +kernel⟩
theorem cavX8_creeps : CalV yX8_creeps := ⟨(mU2 157 rfl rfl), (mU2 158 rfl rfl)⟩
set_option maxHeartbeats 4000000 in
set_option maxRecDepth 100000 in
theorem kX8_creeps_0 {p : Program} {l : Launch} {e : Env} {s : State} {m : MethodId} {args : Array Value} {below : List Frame} {meth : Method} {c : Code} {D : va_G} {cI cZ : ClassId} {a : Nat → Nat} {A : Nat → Prop} {r : Int32} {M' : Mem} (C : Cx p s m args meth c cX8_creeps 3 RX8 (some .int) D cI cZ A)  (x1 : Int32) (M : Mem) (H : Heap) (locs : List Loc) (ls : Array Slot) (hf : fX8_creeps x1 M = some (r, M')) (hst : St D (wB cI cZ a) A s.heap H locs M) (hl : lv_has ls 3 [(0, .ref (a 0)), (1, .int x1)]) : Wi p l e { frames := 3, cells := 0, slots := 0, locals := 69 } s m args below meth c D (wB cI cZ a) A r M' H locs (F0 m 0 ls []) := by
  unfold fX8_creeps at hf
  obtain ⟨hx, hb, hml, hown, hU, hr, hlk, hK, hA⟩ := id C
  refine lv_aload_n hx hb dX8_creeps_0 rfl (lv_at hl 0 rfl) ?_
  refine gf_X8_10 C hst dX8_creeps_1 ?_
  obtain ⟨r_4, M_4, hc_4, hf⟩ := obi_some hf
  refine w_cVi (As := []) (rest := []) C (wB_ad cI cZ a) (mX3_now l D cI cZ a  M r_4 M_4 hc_4) calX3_now cavX3_now (mU1 234 rfl rfl) hst hl.1 1 3 rfl rfl rfl rfl (Nat.le_of_ble_eq_true rfl) ⟨Nat.le_of_ble_eq_true rfl, Nat.le_of_ble_eq_true rfl⟩ dX8_creeps_4 (fun H locs hst => ?_)
  refine lv_bipush (v := 24) hx hb dX8_creeps_7 (by decide) ?_
  refine lv_idiv hx hb dX8_creeps_9 (by decide) ?_
  refine lv_istore_n (lv' := [(2, .int (r_4 / (24 : Int32))), (0, .ref (a 0)), (1, .int x1)]) hx hb dX8_creeps_10 rfl hl (by decide) rfl (fun ls hl => ?_)
  refine lv_iload_n hx hb dX8_creeps_11 rfl (lv_at hl 2 rfl) ?_
  obtain ⟨r_12, M_12, hc_12, hf⟩ := obi_some hf
  refine w_cSi (As := [.int x1]) (rest := []) C (wB_ad cI cZ a) (mX8_isService l D cI cZ a x1 M_4 r_12 M_12 hc_12) calX8_isService casX8_isService (mU1 201 rfl rfl) hst hl.1 rfl rfl (Nat.le_of_ble_eq_true rfl) ⟨Nat.le_of_ble_eq_true rfl, Nat.le_of_ble_eq_true rfl⟩ dX8_creeps_12 (fun H locs hst => ?_)
  refine lv_if_eq (tgt := 24) hx hb dX8_creeps_15 (by decide) (fun c_15 => ?_) (fun c_15 => ?_)
  · have hf := ifp c_15 hf
    refine lv_iconst (v := -1) hx hb dX8_creeps_24 (by decide) ?_
    obtain ⟨e1, e2⟩ := sinj hf
    subst e1
    subst e2
    exact w_iret C hst dX8_creeps_25
  · have hf := ifn c_15 hf
    refine lv_iload_n hx hb dX8_creeps_18 rfl (lv_at hl 0 rfl) ?_
    refine lv_bipush (v := 7) hx hb dX8_creeps_19 (by decide) ?_
    refine lv_icmp_ge (tgt := 26) hx hb dX8_creeps_21 (by decide) (fun c_21 => ?_) (fun c_21 => ?_)
    · have hf := ifp c_21 hf
      refine lv_aload_n hx hb dX8_creeps_26 rfl (lv_at hl 1 rfl) ?_
      refine gf_X8_35 C hst dX8_creeps_27 ?_
      refine lv_iload_n hx hb dX8_creeps_30 rfl (lv_at hl 2 rfl) ?_
      refine lv_iload_n hx hb dX8_creeps_31 rfl (lv_at hl 0 rfl) ?_
      refine lv_bipush (v := 7) hx hb dX8_creeps_32 (by decide) ?_
      refine lv_isub hx hb dX8_creeps_34 ?_
      obtain ⟨r_35, M_35, hc_35, hf⟩ := obi_some hf
      refine w_cVi (As := [.int x1, .int ((r_4 / (24 : Int32)) - (7 : Int32))]) (rest := []) C (wB_ad cI cZ a) (mX7_isCreeping l D cI cZ a x1 ((r_4 / (24 : Int32)) - (7 : Int32)) M_12 r_35 M_35 hc_35) calX7_isCreeping cavX7_isCreeping (mU2 160 rfl rfl) hst hl.1 12 7 rfl rfl rfl rfl (Nat.le_of_ble_eq_true rfl) ⟨Nat.le_of_ble_eq_true rfl, Nat.le_of_ble_eq_true rfl⟩ dX8_creeps_35 (fun H locs hst => ?_)
      refine lv_if_eq (tgt := 45) hx hb dX8_creeps_38 (by decide) (fun c_38 => ?_) (fun c_38 => ?_)
      · have hf := ifp c_38 hf
        refine lv_iconst (v := 0) hx hb dX8_creeps_45 (by decide) ?_
        obtain ⟨e1, e2⟩ := sinj hf
        subst e1
        subst e2
        exact w_iret C hst dX8_creeps_46
      · have hf := ifn c_38 hf
        refine lv_iconst (v := 1) hx hb dX8_creeps_41 (by decide) ?_
        refine lv_goto (tgt := 46) hx hb dX8_creeps_42 (by decide) ?_
        obtain ⟨e1, e2⟩ := sinj hf
        subst e1
        subst e2
        exact w_iret C hst dX8_creeps_46
    · have hf := ifn c_21 hf
      refine lv_iconst (v := -1) hx hb dX8_creeps_24 (by decide) ?_
      obtain ⟨e1, e2⟩ := sinj hf
      subst e1
      subst e2
      exact w_iret C hst dX8_creeps_25
set_option maxRecDepth 100000 in
theorem mX8_creeps (l : Launch) (D : va_G) (cI cZ : ClassId) (a : Nat → Nat) (x1 : Int32) (M : Mem) (r : Int32) (M' : Mem) (hf : fX8_creeps x1 M = some (r, M')) : MI l D cI cZ (wB cI cZ a) yX8_creeps cX8_creeps 3 (some .int) 3 69 [.ref (a 0), .int x1] M r M' :=
  MI.of (by decide) (Nat.le_of_ble_eq_true rfl) (fun p e s m args below meth c A C hst ls hl => kX8_creeps_0 C x1 M s.heap [] ls hf hst hl)

def fX8_cry (x1 x2 : Int32) (M : Mem) : Res :=
  obi (fX2_isKnown x1 M) (fun r_5 M_5 => (if r_5 = 0 then some ((-1 : Int32), M_5) else (if x2 = (0 : Int32) then obi (fX2_serviceOf x1 M_5) (fun r_53 M_53 => some (r_53, M_53)) else (if x2 = (1 : Int32) then obi (fX2_causeOf x1 M_5) (fun r_62 M_62 => some (r_62, M_62)) else (if x2 = (2 : Int32) then obi (fX2_cameAt x1 M_5) (fun r_71 M_71 => some (r_71, M_71)) else (if x2 = (3 : Int32) then obi (fX2_lastAt x1 M_5) (fun r_80 M_80 => some (r_80, M_80)) else (if x2 = (4 : Int32) then obi (fX2_isOpen x1 M_5) (fun r_89 M_89 => (if r_89 = 0 then some ((0 : Int32), M_89) else some ((1 : Int32), M_89))) else some ((-1 : Int32), M_5))))))))
theorem calX8_cry : Cal yX8_cry cX8_cry 3 (some .int) 2 := ⟨(mU2 179 rfl rfl), (mU1 1 rfl rfl), by decide +kernel⟩
theorem cavX8_cry : CalV yX8_cry := ⟨(mU2 177 rfl rfl), (mU2 178 rfl rfl)⟩
set_option maxHeartbeats 4000000 in
set_option maxRecDepth 100000 in
theorem kX8_cry_0 {p : Program} {l : Launch} {e : Env} {s : State} {m : MethodId} {args : Array Value} {below : List Frame} {meth : Method} {c : Code} {D : va_G} {cI cZ : ClassId} {a : Nat → Nat} {A : Nat → Prop} {r : Int32} {M' : Mem} (C : Cx p s m args meth c cX8_cry 3 RX8 (some .int) D cI cZ A)  (x1 x2 : Int32) (M : Mem) (H : Heap) (locs : List Loc) (ls : Array Slot) (hf : fX8_cry x1 x2 M = some (r, M')) (hst : St D (wB cI cZ a) A s.heap H locs M) (hl : lv_has ls 3 [(0, .ref (a 0)), (1, .int x1), (2, .int x2)]) : Wi p l e { frames := 1, cells := 0, slots := 0, locals := 21 } s m args below meth c D (wB cI cZ a) A r M' H locs (F0 m 0 ls []) := by
  unfold fX8_cry at hf
  obtain ⟨hx, hb, hml, hown, hU, hr, hlk, hK, hA⟩ := id C
  refine lv_aload_n hx hb dX8_cry_0 rfl (lv_at hl 0 rfl) ?_
  refine gf_X8_42 C hst dX8_cry_1 ?_
  refine lv_iload_n hx hb dX8_cry_4 rfl (lv_at hl 1 rfl) ?_
  obtain ⟨r_5, M_5, hc_5, hf⟩ := obi_some hf
  refine w_cVi (As := [.int x1]) (rest := []) C (wB_ad cI cZ a) (mX2_isKnown l D cI cZ a x1 M r_5 M_5 hc_5) calX2_isKnown cavX2_isKnown (mU2 180 rfl rfl) hst hl.1 14 2 rfl rfl rfl rfl (Nat.le_of_ble_eq_true rfl) ⟨Nat.le_of_ble_eq_true rfl, Nat.le_of_ble_eq_true rfl⟩ dX8_cry_5 (fun H locs hst => ?_)
  refine lv_if_ne (tgt := 13) hx hb dX8_cry_8 (by decide) (fun c_8 => ?_) (fun c_8 => ?_)
  · have hf := ifn c_8 hf
    refine lv_iload_n hx hb dX8_cry_13 rfl (lv_at hl 2 rfl) ?_
    by_cases c_14_0 : x2 = (0 : Int32)
    · have hf := ifp c_14_0 hf
      refine lv_tableIn (tgt := 48) hx hb dX8_cry_14 (by rw [c_14_0]; decide) (by rw [c_14_0]; decide) (by rw [c_14_0]; rfl) (by decide) ?_
      refine lv_aload_n hx hb dX8_cry_48 rfl (lv_at hl 0 rfl) ?_
      refine gf_X8_42 C hst dX8_cry_49 ?_
      refine lv_iload_n hx hb dX8_cry_52 rfl (lv_at hl 1 rfl) ?_
      obtain ⟨r_53, M_53, hc_53, hf⟩ := obi_some hf
      refine w_cVi (As := [.int x1]) (rest := []) C (wB_ad cI cZ a) (mX2_serviceOf l D cI cZ a x1 M_5 r_53 M_53 hc_53) calX2_serviceOf cavX2_serviceOf (mU2 184 rfl rfl) hst hl.1 14 2 rfl rfl rfl rfl (Nat.le_of_ble_eq_true rfl) ⟨Nat.le_of_ble_eq_true rfl, Nat.le_of_ble_eq_true rfl⟩ dX8_cry_53 (fun H locs hst => ?_)
      obtain ⟨e1, e2⟩ := sinj hf
      subst e1
      subst e2
      exact w_iret C hst dX8_cry_56
    · have hf := ifn c_14_0 hf
      by_cases c_14_1 : x2 = (1 : Int32)
      · have hf := ifp c_14_1 hf
        refine lv_tableIn (tgt := 57) hx hb dX8_cry_14 (by rw [c_14_1]; decide) (by rw [c_14_1]; decide) (by rw [c_14_1]; rfl) (by decide) ?_
        refine lv_aload_n hx hb dX8_cry_57 rfl (lv_at hl 0 rfl) ?_
        refine gf_X8_42 C hst dX8_cry_58 ?_
        refine lv_iload_n hx hb dX8_cry_61 rfl (lv_at hl 1 rfl) ?_
        obtain ⟨r_62, M_62, hc_62, hf⟩ := obi_some hf
        refine w_cVi (As := [.int x1]) (rest := []) C (wB_ad cI cZ a) (mX2_causeOf l D cI cZ a x1 M_5 r_62 M_62 hc_62) calX2_causeOf cavX2_causeOf (mU2 188 rfl rfl) hst hl.1 14 2 rfl rfl rfl rfl (Nat.le_of_ble_eq_true rfl) ⟨Nat.le_of_ble_eq_true rfl, Nat.le_of_ble_eq_true rfl⟩ dX8_cry_62 (fun H locs hst => ?_)
        obtain ⟨e1, e2⟩ := sinj hf
        subst e1
        subst e2
        exact w_iret C hst dX8_cry_65
      · have hf := ifn c_14_1 hf
        by_cases c_14_2 : x2 = (2 : Int32)
        · have hf := ifp c_14_2 hf
          refine lv_tableIn (tgt := 66) hx hb dX8_cry_14 (by rw [c_14_2]; decide) (by rw [c_14_2]; decide) (by rw [c_14_2]; rfl) (by decide) ?_
          refine lv_aload_n hx hb dX8_cry_66 rfl (lv_at hl 0 rfl) ?_
          refine gf_X8_42 C hst dX8_cry_67 ?_
          refine lv_iload_n hx hb dX8_cry_70 rfl (lv_at hl 1 rfl) ?_
          obtain ⟨r_71, M_71, hc_71, hf⟩ := obi_some hf
          refine w_cVi (As := [.int x1]) (rest := []) C (wB_ad cI cZ a) (mX2_cameAt l D cI cZ a x1 M_5 r_71 M_71 hc_71) calX2_cameAt cavX2_cameAt (mU2 192 rfl rfl) hst hl.1 14 2 rfl rfl rfl rfl (Nat.le_of_ble_eq_true rfl) ⟨Nat.le_of_ble_eq_true rfl, Nat.le_of_ble_eq_true rfl⟩ dX8_cry_71 (fun H locs hst => ?_)
          obtain ⟨e1, e2⟩ := sinj hf
          subst e1
          subst e2
          exact w_iret C hst dX8_cry_74
        · have hf := ifn c_14_2 hf
          by_cases c_14_3 : x2 = (3 : Int32)
          · have hf := ifp c_14_3 hf
            refine lv_tableIn (tgt := 75) hx hb dX8_cry_14 (by rw [c_14_3]; decide) (by rw [c_14_3]; decide) (by rw [c_14_3]; rfl) (by decide) ?_
            refine lv_aload_n hx hb dX8_cry_75 rfl (lv_at hl 0 rfl) ?_
            refine gf_X8_42 C hst dX8_cry_76 ?_
            refine lv_iload_n hx hb dX8_cry_79 rfl (lv_at hl 1 rfl) ?_
            obtain ⟨r_80, M_80, hc_80, hf⟩ := obi_some hf
            refine w_cVi (As := [.int x1]) (rest := []) C (wB_ad cI cZ a) (mX2_lastAt l D cI cZ a x1 M_5 r_80 M_80 hc_80) calX2_lastAt cavX2_lastAt (mU2 196 rfl rfl) hst hl.1 14 2 rfl rfl rfl rfl (Nat.le_of_ble_eq_true rfl) ⟨Nat.le_of_ble_eq_true rfl, Nat.le_of_ble_eq_true rfl⟩ dX8_cry_80 (fun H locs hst => ?_)
            obtain ⟨e1, e2⟩ := sinj hf
            subst e1
            subst e2
            exact w_iret C hst dX8_cry_83
          · have hf := ifn c_14_3 hf
            by_cases c_14_4 : x2 = (4 : Int32)
            · have hf := ifp c_14_4 hf
              refine lv_tableIn (tgt := 84) hx hb dX8_cry_14 (by rw [c_14_4]; decide) (by rw [c_14_4]; decide) (by rw [c_14_4]; rfl) (by decide) ?_
              refine lv_aload_n hx hb dX8_cry_84 rfl (lv_at hl 0 rfl) ?_
              refine gf_X8_42 C hst dX8_cry_85 ?_
              refine lv_iload_n hx hb dX8_cry_88 rfl (lv_at hl 1 rfl) ?_
              obtain ⟨r_89, M_89, hc_89, hf⟩ := obi_some hf
              refine w_cVi (As := [.int x1]) (rest := []) C (wB_ad cI cZ a) (mX2_isOpen l D cI cZ a x1 M_5 r_89 M_89 hc_89) calX2_isOpen cavX2_isOpen (mU2 200 rfl rfl) hst hl.1 14 2 rfl rfl rfl rfl (Nat.le_of_ble_eq_true rfl) ⟨Nat.le_of_ble_eq_true rfl, Nat.le_of_ble_eq_true rfl⟩ dX8_cry_89 (fun H locs hst => ?_)
              refine lv_if_eq (tgt := 99) hx hb dX8_cry_92 (by decide) (fun c_92 => ?_) (fun c_92 => ?_)
              · have hf := ifp c_92 hf
                refine lv_iconst (v := 0) hx hb dX8_cry_99 (by decide) ?_
                obtain ⟨e1, e2⟩ := sinj hf
                subst e1
                subst e2
                exact w_iret C hst dX8_cry_100
              · have hf := ifn c_92 hf
                refine lv_iconst (v := 1) hx hb dX8_cry_95 (by decide) ?_
                refine lv_goto (tgt := 100) hx hb dX8_cry_96 (by decide) ?_
                obtain ⟨e1, e2⟩ := sinj hf
                subst e1
                subst e2
                exact w_iret C hst dX8_cry_100
            · have hf := ifn c_14_4 hf
              refine lv_tableOut (tgt := 101) hx hb dX8_cry_14 (tsO 4 (fun k hk => by rcases (show k = 0 ∨ k = 1 ∨ k = 2 ∨ k = 3 ∨ k = 4 by omega) with rfl | rfl | rfl | rfl | rfl <;> assumption)) (by decide) ?_
              refine lv_iconst (v := -1) hx hb dX8_cry_101 (by decide) ?_
              obtain ⟨e1, e2⟩ := sinj hf
              subst e1
              subst e2
              exact w_iret C hst dX8_cry_102
  · have hf := ifp c_8 hf
    refine lv_iconst (v := -1) hx hb dX8_cry_11 (by decide) ?_
    obtain ⟨e1, e2⟩ := sinj hf
    subst e1
    subst e2
    exact w_iret C hst dX8_cry_12
set_option maxRecDepth 100000 in
theorem mX8_cry (l : Launch) (D : va_G) (cI cZ : ClassId) (a : Nat → Nat) (x1 x2 : Int32) (M : Mem) (r : Int32) (M' : Mem) (hf : fX8_cry x1 x2 M = some (r, M')) : MI l D cI cZ (wB cI cZ a) yX8_cry cX8_cry 3 (some .int) 1 21 [.ref (a 0), .int x1, .int x2] M r M' :=
  MI.of (by decide) (Nat.le_of_ble_eq_true rfl) (fun p e s m args below meth c A C hst ls hl => kX8_cry_0 C x1 x2 M s.heap [] ls hf hst hl)

def fX8_laid (x1 x2 x3 : Int32) (M : Mem) : Res :=
  obi (fX8_isOwner x1 M) (fun r_1 M_1 => (if r_1 = 0 then some ((-1 : Int32), M_1) else (if x2 < 0 then some ((-1 : Int32), M_1) else (if x3 < x2 then some ((-1 : Int32), M_1) else obi (fX3_now  M_1) (fun r_21 M_21 => (if x3 ≤ (r_21 + (1 : Int32)) then obi (fX0_over x1 x2 x3 M_21) (fun r_38 M_38 => some (r_38, M_38)) else some ((-1 : Int32), M_21)))))))
theorem calX8_laid : Cal yX8_laid cX8_laid 4 (some .int) 3 := ⟨(mU2 207 rfl rfl), (mU1 1 rfl rfl), by decide +kernel⟩
theorem cavX8_laid : CalV yX8_laid := ⟨(mU2 205 rfl rfl), (mU2 206 rfl rfl)⟩
set_option maxHeartbeats 4000000 in
set_option maxRecDepth 100000 in
theorem kX8_laid_0 {p : Program} {l : Launch} {e : Env} {s : State} {m : MethodId} {args : Array Value} {below : List Frame} {meth : Method} {c : Code} {D : va_G} {cI cZ : ClassId} {a : Nat → Nat} {A : Nat → Prop} {r : Int32} {M' : Mem} (C : Cx p s m args meth c cX8_laid 4 RX8 (some .int) D cI cZ A)  (x1 x2 x3 : Int32) (M : Mem) (H : Heap) (locs : List Loc) (ls : Array Slot) (hf : fX8_laid x1 x2 x3 M = some (r, M')) (hst : St D (wB cI cZ a) A s.heap H locs M) (hl : lv_has ls 4 [(0, .ref (a 0)), (1, .int x1), (2, .int x2), (3, .int x3)]) : Wi p l e { frames := 4, cells := 0, slots := 0, locals := 104 } s m args below meth c D (wB cI cZ a) A r M' H locs (F0 m 0 ls []) := by
  unfold fX8_laid at hf
  obtain ⟨hx, hb, hml, hown, hU, hr, hlk, hK, hA⟩ := id C
  refine lv_iload_n hx hb dX8_laid_0 rfl (lv_at hl 1 rfl) ?_
  obtain ⟨r_1, M_1, hc_1, hf⟩ := obi_some hf
  refine w_cSi (As := [.int x1]) (rest := []) C (wB_ad cI cZ a) (mX8_isOwner l D cI cZ a x1 M r_1 M_1 hc_1) calX8_isOwner casX8_isOwner (mU1 204 rfl rfl) hst hl.1 rfl rfl (Nat.le_of_ble_eq_true rfl) ⟨Nat.le_of_ble_eq_true rfl, Nat.le_of_ble_eq_true rfl⟩ dX8_laid_1 (fun H locs hst => ?_)
  refine lv_if_eq (tgt := 29) hx hb dX8_laid_4 (by decide) (fun c_4 => ?_) (fun c_4 => ?_)
  · have hf := ifp c_4 hf
    refine lv_iconst (v := -1) hx hb dX8_laid_29 (by decide) ?_
    obtain ⟨e1, e2⟩ := sinj hf
    subst e1
    subst e2
    exact w_iret C hst dX8_laid_30
  · have hf := ifn c_4 hf
    refine lv_iload_n hx hb dX8_laid_7 rfl (lv_at hl 2 rfl) ?_
    refine lv_if_lt (tgt := 29) hx hb dX8_laid_8 (by decide) (fun c_8 => ?_) (fun c_8 => ?_)
    · have hf := ifp c_8 hf
      refine lv_iconst (v := -1) hx hb dX8_laid_29 (by decide) ?_
      obtain ⟨e1, e2⟩ := sinj hf
      subst e1
      subst e2
      exact w_iret C hst dX8_laid_30
    · have hf := ifn c_8 hf
      refine lv_iload_n hx hb dX8_laid_11 rfl (lv_at hl 2 rfl) ?_
      refine lv_iload_n hx hb dX8_laid_12 rfl (lv_at hl 3 rfl) ?_
      refine lv_icmp_gt (tgt := 29) hx hb dX8_laid_13 (by decide) (fun c_13 => ?_) (fun c_13 => ?_)
      · have hf := ifp c_13 hf
        refine lv_iconst (v := -1) hx hb dX8_laid_29 (by decide) ?_
        obtain ⟨e1, e2⟩ := sinj hf
        subst e1
        subst e2
        exact w_iret C hst dX8_laid_30
      · have hf := ifn c_13 hf
        refine lv_iload_n hx hb dX8_laid_16 rfl (lv_at hl 3 rfl) ?_
        refine lv_aload_n hx hb dX8_laid_17 rfl (lv_at hl 0 rfl) ?_
        refine gf_X8_10 C hst dX8_laid_18 ?_
        obtain ⟨r_21, M_21, hc_21, hf⟩ := obi_some hf
        refine w_cVi (As := []) (rest := [.int x3]) C (wB_ad cI cZ a) (mX3_now l D cI cZ a  M_1 r_21 M_21 hc_21) calX3_now cavX3_now (mU1 234 rfl rfl) hst hl.1 1 3 rfl rfl rfl rfl (Nat.le_of_ble_eq_true rfl) ⟨Nat.le_of_ble_eq_true rfl, Nat.le_of_ble_eq_true rfl⟩ dX8_laid_21 (fun H locs hst => ?_)
        refine lv_iconst (v := 1) hx hb dX8_laid_24 (by decide) ?_
        refine lv_iadd hx hb dX8_laid_25 ?_
        refine lv_icmp_le (tgt := 31) hx hb dX8_laid_26 (by decide) (fun c_26 => ?_) (fun c_26 => ?_)
        · have hf := ifp c_26 hf
          refine lv_aload_n hx hb dX8_laid_31 rfl (lv_at hl 0 rfl) ?_
          refine gf_X8_58 C hst dX8_laid_32 ?_
          refine lv_iload_n hx hb dX8_laid_35 rfl (lv_at hl 1 rfl) ?_
          refine lv_iload_n hx hb dX8_laid_36 rfl (lv_at hl 2 rfl) ?_
          refine lv_iload_n hx hb dX8_laid_37 rfl (lv_at hl 3 rfl) ?_
          obtain ⟨r_38, M_38, hc_38, hf⟩ := obi_some hf
          refine w_cVi (As := [.int x1, .int x2, .int x3]) (rest := []) C (wB_ad cI cZ a) (mX0_over l D cI cZ a x1 x2 x3 M_21 r_38 M_38 hc_38) calX0_over cavX0_over (mU2 208 rfl rfl) hst hl.1 22 0 rfl rfl rfl rfl (Nat.le_of_ble_eq_true rfl) ⟨Nat.le_of_ble_eq_true rfl, Nat.le_of_ble_eq_true rfl⟩ dX8_laid_38 (fun H locs hst => ?_)
          obtain ⟨e1, e2⟩ := sinj hf
          subst e1
          subst e2
          exact w_iret C hst dX8_laid_41
        · have hf := ifn c_26 hf
          refine lv_iconst (v := -1) hx hb dX8_laid_29 (by decide) ?_
          obtain ⟨e1, e2⟩ := sinj hf
          subst e1
          subst e2
          exact w_iret C hst dX8_laid_30
set_option maxRecDepth 100000 in
theorem mX8_laid (l : Launch) (D : va_G) (cI cZ : ClassId) (a : Nat → Nat) (x1 x2 x3 : Int32) (M : Mem) (r : Int32) (M' : Mem) (hf : fX8_laid x1 x2 x3 M = some (r, M')) : MI l D cI cZ (wB cI cZ a) yX8_laid cX8_laid 4 (some .int) 4 104 [.ref (a 0), .int x1, .int x2, .int x3] M r M' :=
  MI.of (by decide) (Nat.le_of_ble_eq_true rfl) (fun p e s m args below meth c A C hst ls hl => kX8_laid_0 C x1 x2 x3 M s.heap [] ls hf hst hl)

def fX8_budget (x1 x2 x3 x4 : Int32) (M : Mem) : Res :=
  obi (fX8_isOwner x1 M) (fun r_1 M_1 => (if r_1 = 0 then some ((0 : Int32), M_1) else (if x2 < 0 then some ((0 : Int32), M_1) else (if x2 ≤ (100000000 : Int32) then (if x3 < 0 then some ((0 : Int32), M_1) else (if x4 ≤ x3 then some ((0 : Int32), M_1) else (if x4 ≤ (2000 : Int32) then obi (fX1_set x1 x2 x3 x4 M_1) (fun r_48 M_48 => some ((1 : Int32), M_48)) else some ((0 : Int32), M_1)))) else some ((0 : Int32), M_1)))))
theorem calX8_budget : Cal yX8_budget cX8_budget 5 (some .boolean) 4 := ⟨(mU2 228 rfl rfl), (mU1 1 rfl rfl), by decide +kernel⟩
theorem cavX8_budget : CalV yX8_budget := ⟨(mU2 226 rfl rfl), (mU2 227 rfl rfl)⟩
set_option maxHeartbeats 4000000 in
set_option maxRecDepth 100000 in
theorem kX8_budget_0 {p : Program} {l : Launch} {e : Env} {s : State} {m : MethodId} {args : Array Value} {below : List Frame} {meth : Method} {c : Code} {D : va_G} {cI cZ : ClassId} {a : Nat → Nat} {A : Nat → Prop} {r : Int32} {M' : Mem} (C : Cx p s m args meth c cX8_budget 5 RX8 (some .boolean) D cI cZ A)  (x1 x2 x3 x4 : Int32) (M : Mem) (H : Heap) (locs : List Loc) (ls : Array Slot) (hf : fX8_budget x1 x2 x3 x4 M = some (r, M')) (hst : St D (wB cI cZ a) A s.heap H locs M) (hl : lv_has ls 5 [(0, .ref (a 0)), (1, .int x1), (2, .int x2), (3, .int x3), (4, .int x4)]) : Wi p l e { frames := 1, cells := 0, slots := 0, locals := 24 } s m args below meth c D (wB cI cZ a) A r M' H locs (F0 m 0 ls []) := by
  unfold fX8_budget at hf
  obtain ⟨hx, hb, hml, hown, hU, hr, hlk, hK, hA⟩ := id C
  refine lv_iload_n hx hb dX8_budget_0 rfl (lv_at hl 1 rfl) ?_
  obtain ⟨r_1, M_1, hc_1, hf⟩ := obi_some hf
  refine w_cSi (As := [.int x1]) (rest := []) C (wB_ad cI cZ a) (mX8_isOwner l D cI cZ a x1 M r_1 M_1 hc_1) calX8_isOwner casX8_isOwner (mU1 204 rfl rfl) hst hl.1 rfl rfl (Nat.le_of_ble_eq_true rfl) ⟨Nat.le_of_ble_eq_true rfl, Nat.le_of_ble_eq_true rfl⟩ dX8_budget_1 (fun H locs hst => ?_)
  refine lv_if_eq (tgt := 17) hx hb dX8_budget_4 (by decide) (fun c_4 => ?_) (fun c_4 => ?_)
  · have hf := ifp c_4 hf
    refine lv_iconst (v := 0) hx hb dX8_budget_17 (by decide) ?_
    obtain ⟨e1, e2⟩ := sinj hf
    subst e1
    subst e2
    exact w_zret C rfl hst dX8_budget_18
  · have hf := ifn c_4 hf
    refine lv_iload_n hx hb dX8_budget_7 rfl (lv_at hl 2 rfl) ?_
    refine lv_if_lt (tgt := 17) hx hb dX8_budget_8 (by decide) (fun c_8 => ?_) (fun c_8 => ?_)
    · have hf := ifp c_8 hf
      refine lv_iconst (v := 0) hx hb dX8_budget_17 (by decide) ?_
      obtain ⟨e1, e2⟩ := sinj hf
      subst e1
      subst e2
      exact w_zret C rfl hst dX8_budget_18
    · have hf := ifn c_8 hf
      refine lv_iload_n hx hb dX8_budget_11 rfl (lv_at hl 2 rfl) ?_
      refine lv_ldc (v := 100000000) hx hb hown (hU (.constant RX8 192 100000000) (mU2 229 rfl rfl)) dX8_budget_12 ?_
      refine lv_icmp_le (tgt := 19) hx hb dX8_budget_14 (by decide) (fun c_14 => ?_) (fun c_14 => ?_)
      · have hf := ifp c_14 hf
        refine lv_iload_n hx hb dX8_budget_19 rfl (lv_at hl 3 rfl) ?_
        refine lv_if_lt (tgt := 37) hx hb dX8_budget_20 (by decide) (fun c_20 => ?_) (fun c_20 => ?_)
        · have hf := ifp c_20 hf
          refine lv_iconst (v := 0) hx hb dX8_budget_37 (by decide) ?_
          obtain ⟨e1, e2⟩ := sinj hf
          subst e1
          subst e2
          exact w_zret C rfl hst dX8_budget_38
        · have hf := ifn c_20 hf
          refine lv_iload_n hx hb dX8_budget_23 rfl (lv_at hl 3 rfl) ?_
          refine lv_iload hx hb dX8_budget_24 (lv_at hl 4 rfl) ?_
          refine lv_icmp_ge (tgt := 37) hx hb dX8_budget_26 (by decide) (fun c_26 => ?_) (fun c_26 => ?_)
          · have hf := ifp c_26 hf
            refine lv_iconst (v := 0) hx hb dX8_budget_37 (by decide) ?_
            obtain ⟨e1, e2⟩ := sinj hf
            subst e1
            subst e2
            exact w_zret C rfl hst dX8_budget_38
          · have hf := ifn c_26 hf
            refine lv_iload hx hb dX8_budget_29 (lv_at hl 4 rfl) ?_
            refine lv_sipush (v := 2000) hx hb dX8_budget_31 (by decide) ?_
            refine lv_icmp_le (tgt := 39) hx hb dX8_budget_34 (by decide) (fun c_34 => ?_) (fun c_34 => ?_)
            · have hf := ifp c_34 hf
              refine lv_aload_n hx hb dX8_budget_39 rfl (lv_at hl 0 rfl) ?_
              refine gf_X8_67 C hst dX8_budget_40 ?_
              refine lv_iload_n hx hb dX8_budget_43 rfl (lv_at hl 1 rfl) ?_
              refine lv_iload_n hx hb dX8_budget_44 rfl (lv_at hl 2 rfl) ?_
              refine lv_iload_n hx hb dX8_budget_45 rfl (lv_at hl 3 rfl) ?_
              refine lv_iload hx hb dX8_budget_46 (lv_at hl 4 rfl) ?_
              obtain ⟨r_48, M_48, hc_48, hf⟩ := obi_some hf
              refine w_cVv (As := [.int x1, .int x2, .int x3, .int x4]) (rest := []) C (wB_ad cI cZ a) (mX1_set l D cI cZ a x1 x2 x3 x4 M_1 r_48 M_48 hc_48) calX1_set cavX1_set (mU2 230 rfl rfl) hst hl.1 23 1 rfl rfl rfl rfl (Nat.le_of_ble_eq_true rfl) ⟨Nat.le_of_ble_eq_true rfl, Nat.le_of_ble_eq_true rfl⟩ dX8_budget_48 (fun H locs hst => ?_)
              refine lv_iconst (v := 1) hx hb dX8_budget_51 (by decide) ?_
              obtain ⟨e1, e2⟩ := sinj hf
              subst e1
              subst e2
              exact w_zret C rfl hst dX8_budget_52
            · have hf := ifn c_34 hf
              refine lv_iconst (v := 0) hx hb dX8_budget_37 (by decide) ?_
              obtain ⟨e1, e2⟩ := sinj hf
              subst e1
              subst e2
              exact w_zret C rfl hst dX8_budget_38
      · have hf := ifn c_14 hf
        refine lv_iconst (v := 0) hx hb dX8_budget_17 (by decide) ?_
        obtain ⟨e1, e2⟩ := sinj hf
        subst e1
        subst e2
        exact w_zret C rfl hst dX8_budget_18
set_option maxRecDepth 100000 in
theorem mX8_budget (l : Launch) (D : va_G) (cI cZ : ClassId) (a : Nat → Nat) (x1 x2 x3 x4 : Int32) (M : Mem) (r : Int32) (M' : Mem) (hf : fX8_budget x1 x2 x3 x4 M = some (r, M')) : MI l D cI cZ (wB cI cZ a) yX8_budget cX8_budget 5 (some .boolean) 1 24 [.ref (a 0), .int x1, .int x2, .int x3, .int x4] M r M' :=
  MI.of (by decide) (Nat.le_of_ble_eq_true rfl) (fun p e s m args below meth c A C hst ls hl => kX8_budget_0 C x1 x2 x3 x4 M s.heap [] ls hf hst hl)

def fX8_budgeted (x1 x2 : Int32) (M : Mem) : Res :=
  obi (fX8_isOwner x1 M) (fun r_1 M_1 => (if r_1 = 0 then some ((-1 : Int32), M_1) else (if x2 = (0 : Int32) then obi (fX1_sumOf x1 M_1) (fun r_53 M_53 => some (r_53, M_53)) else (if x2 = (1 : Int32) then obi (fX1_spent x1 M_1) (fun r_62 M_62 => some (r_62, M_62)) else (if x2 = (2 : Int32) then obi (fX0_forecastLow x1 M_1) (fun r_76 M_76 => obi (fX1_spentUpAt x1 r_76 M_76) (fun r_79 M_79 => some (r_79, M_79))) else (if x2 = (3 : Int32) then obi (fX0_forecastHigh x1 M_1) (fun r_93 M_93 => obi (fX1_spentUpAt x1 r_93 M_93) (fun r_96 M_96 => some (r_96, M_96))) else (if x2 = (4 : Int32) then obi (fX0_forecastLow x1 M_1) (fun r_110 M_110 => obi (fX1_atEnd x1 r_110 M_110) (fun r_113 M_113 => some (r_113, M_113))) else (if x2 = (5 : Int32) then obi (fX0_forecastHigh x1 M_1) (fun r_127 M_127 => obi (fX1_atEnd x1 r_127 M_127) (fun r_130 M_130 => some (r_130, M_130))) else some ((-1 : Int32), M_1)))))))))
theorem calX8_budgeted : Cal yX8_budgeted cX8_budgeted 3 (some .int) 2 := ⟨(mU2 237 rfl rfl), (mU1 1 rfl rfl), by decide +kernel⟩
theorem cavX8_budgeted : CalV yX8_budgeted := ⟨(mU2 235 rfl rfl), (mU2 236 rfl rfl)⟩
set_option maxHeartbeats 4000000 in
set_option maxRecDepth 100000 in
theorem kX8_budgeted_0 {p : Program} {l : Launch} {e : Env} {s : State} {m : MethodId} {args : Array Value} {below : List Frame} {meth : Method} {c : Code} {D : va_G} {cI cZ : ClassId} {a : Nat → Nat} {A : Nat → Prop} {r : Int32} {M' : Mem} (C : Cx p s m args meth c cX8_budgeted 3 RX8 (some .int) D cI cZ A)  (x1 x2 : Int32) (M : Mem) (H : Heap) (locs : List Loc) (ls : Array Slot) (hf : fX8_budgeted x1 x2 M = some (r, M')) (hst : St D (wB cI cZ a) A s.heap H locs M) (hl : lv_has ls 3 [(0, .ref (a 0)), (1, .int x1), (2, .int x2)]) : Wi p l e { frames := 6, cells := 0, slots := 0, locals := 149 } s m args below meth c D (wB cI cZ a) A r M' H locs (F0 m 0 ls []) := by
  unfold fX8_budgeted at hf
  obtain ⟨hx, hb, hml, hown, hU, hr, hlk, hK, hA⟩ := id C
  refine lv_iload_n hx hb dX8_budgeted_0 rfl (lv_at hl 1 rfl) ?_
  obtain ⟨r_1, M_1, hc_1, hf⟩ := obi_some hf
  refine w_cSi (As := [.int x1]) (rest := []) C (wB_ad cI cZ a) (mX8_isOwner l D cI cZ a x1 M r_1 M_1 hc_1) calX8_isOwner casX8_isOwner (mU1 204 rfl rfl) hst hl.1 rfl rfl (Nat.le_of_ble_eq_true rfl) ⟨Nat.le_of_ble_eq_true rfl, Nat.le_of_ble_eq_true rfl⟩ dX8_budgeted_1 (fun H locs hst => ?_)
  refine lv_if_ne (tgt := 9) hx hb dX8_budgeted_4 (by decide) (fun c_4 => ?_) (fun c_4 => ?_)
  · have hf := ifn c_4 hf
    refine lv_iload_n hx hb dX8_budgeted_9 rfl (lv_at hl 2 rfl) ?_
    by_cases c_10_0 : x2 = (0 : Int32)
    · have hf := ifp c_10_0 hf
      refine lv_tableIn (tgt := 48) hx hb dX8_budgeted_10 (by rw [c_10_0]; decide) (by rw [c_10_0]; decide) (by rw [c_10_0]; rfl) (by decide) ?_
      refine lv_aload_n hx hb dX8_budgeted_48 rfl (lv_at hl 0 rfl) ?_
      refine gf_X8_67 C hst dX8_budgeted_49 ?_
      refine lv_iload_n hx hb dX8_budgeted_52 rfl (lv_at hl 1 rfl) ?_
      obtain ⟨r_53, M_53, hc_53, hf⟩ := obi_some hf
      refine w_cVi (As := [.int x1]) (rest := []) C (wB_ad cI cZ a) (mX1_sumOf l D cI cZ a x1 M_1 r_53 M_53 hc_53) calX1_sumOf cavX1_sumOf (mU2 238 rfl rfl) hst hl.1 23 1 rfl rfl rfl rfl (Nat.le_of_ble_eq_true rfl) ⟨Nat.le_of_ble_eq_true rfl, Nat.le_of_ble_eq_true rfl⟩ dX8_budgeted_53 (fun H locs hst => ?_)
      obtain ⟨e1, e2⟩ := sinj hf
      subst e1
      subst e2
      exact w_iret C hst dX8_budgeted_56
    · have hf := ifn c_10_0 hf
      by_cases c_10_1 : x2 = (1 : Int32)
      · have hf := ifp c_10_1 hf
        refine lv_tableIn (tgt := 57) hx hb dX8_budgeted_10 (by rw [c_10_1]; decide) (by rw [c_10_1]; decide) (by rw [c_10_1]; rfl) (by decide) ?_
        refine lv_aload_n hx hb dX8_budgeted_57 rfl (lv_at hl 0 rfl) ?_
        refine gf_X8_67 C hst dX8_budgeted_58 ?_
        refine lv_iload_n hx hb dX8_budgeted_61 rfl (lv_at hl 1 rfl) ?_
        obtain ⟨r_62, M_62, hc_62, hf⟩ := obi_some hf
        refine w_cVi (As := [.int x1]) (rest := []) C (wB_ad cI cZ a) (mX1_spent l D cI cZ a x1 M_1 r_62 M_62 hc_62) calX1_spent cavX1_spent (mU3 2 rfl rfl) hst hl.1 23 1 rfl rfl rfl rfl (Nat.le_of_ble_eq_true rfl) ⟨Nat.le_of_ble_eq_true rfl, Nat.le_of_ble_eq_true rfl⟩ dX8_budgeted_62 (fun H locs hst => ?_)
        obtain ⟨e1, e2⟩ := sinj hf
        subst e1
        subst e2
        exact w_iret C hst dX8_budgeted_65
      · have hf := ifn c_10_1 hf
        by_cases c_10_2 : x2 = (2 : Int32)
        · have hf := ifp c_10_2 hf
          refine lv_tableIn (tgt := 66) hx hb dX8_budgeted_10 (by rw [c_10_2]; decide) (by rw [c_10_2]; decide) (by rw [c_10_2]; rfl) (by decide) ?_
          refine lv_aload_n hx hb dX8_budgeted_66 rfl (lv_at hl 0 rfl) ?_
          refine gf_X8_67 C hst dX8_budgeted_67 ?_
          refine lv_iload_n hx hb dX8_budgeted_70 rfl (lv_at hl 1 rfl) ?_
          refine lv_aload_n hx hb dX8_budgeted_71 rfl (lv_at hl 0 rfl) ?_
          refine gf_X8_58 C hst dX8_budgeted_72 ?_
          refine lv_iload_n hx hb dX8_budgeted_75 rfl (lv_at hl 1 rfl) ?_
          obtain ⟨r_76, M_76, hc_76, hf⟩ := obi_some hf
          refine w_cVi (As := [.int x1]) (rest := [.int x1, .ref (a 23)]) C (wB_ad cI cZ a) (mX0_forecastLow l D cI cZ a x1 M_1 r_76 M_76 hc_76) calX0_forecastLow cavX0_forecastLow (mU3 11 rfl rfl) hst hl.1 22 0 rfl rfl rfl rfl (Nat.le_of_ble_eq_true rfl) ⟨Nat.le_of_ble_eq_true rfl, Nat.le_of_ble_eq_true rfl⟩ dX8_budgeted_76 (fun H locs hst => ?_)
          obtain ⟨r_79, M_79, hc_79, hf⟩ := obi_some hf
          refine w_cVi (As := [.int x1, .int r_76]) (rest := []) C (wB_ad cI cZ a) (mX1_spentUpAt l D cI cZ a x1 r_76 M_76 r_79 M_79 hc_79) calX1_spentUpAt cavX1_spentUpAt (mU3 27 rfl rfl) hst hl.1 23 1 rfl rfl rfl rfl (Nat.le_of_ble_eq_true rfl) ⟨Nat.le_of_ble_eq_true rfl, Nat.le_of_ble_eq_true rfl⟩ dX8_budgeted_79 (fun H locs hst => ?_)
          obtain ⟨e1, e2⟩ := sinj hf
          subst e1
          subst e2
          exact w_iret C hst dX8_budgeted_82
        · have hf := ifn c_10_2 hf
          by_cases c_10_3 : x2 = (3 : Int32)
          · have hf := ifp c_10_3 hf
            refine lv_tableIn (tgt := 83) hx hb dX8_budgeted_10 (by rw [c_10_3]; decide) (by rw [c_10_3]; decide) (by rw [c_10_3]; rfl) (by decide) ?_
            refine lv_aload_n hx hb dX8_budgeted_83 rfl (lv_at hl 0 rfl) ?_
            refine gf_X8_67 C hst dX8_budgeted_84 ?_
            refine lv_iload_n hx hb dX8_budgeted_87 rfl (lv_at hl 1 rfl) ?_
            refine lv_aload_n hx hb dX8_budgeted_88 rfl (lv_at hl 0 rfl) ?_
            refine gf_X8_58 C hst dX8_budgeted_89 ?_
            refine lv_iload_n hx hb dX8_budgeted_92 rfl (lv_at hl 1 rfl) ?_
            obtain ⟨r_93, M_93, hc_93, hf⟩ := obi_some hf
            refine w_cVi (As := [.int x1]) (rest := [.int x1, .ref (a 23)]) C (wB_ad cI cZ a) (mX0_forecastHigh l D cI cZ a x1 M_1 r_93 M_93 hc_93) calX0_forecastHigh cavX0_forecastHigh (mU3 32 rfl rfl) hst hl.1 22 0 rfl rfl rfl rfl (Nat.le_of_ble_eq_true rfl) ⟨Nat.le_of_ble_eq_true rfl, Nat.le_of_ble_eq_true rfl⟩ dX8_budgeted_93 (fun H locs hst => ?_)
            obtain ⟨r_96, M_96, hc_96, hf⟩ := obi_some hf
            refine w_cVi (As := [.int x1, .int r_93]) (rest := []) C (wB_ad cI cZ a) (mX1_spentUpAt l D cI cZ a x1 r_93 M_93 r_96 M_96 hc_96) calX1_spentUpAt cavX1_spentUpAt (mU3 27 rfl rfl) hst hl.1 23 1 rfl rfl rfl rfl (Nat.le_of_ble_eq_true rfl) ⟨Nat.le_of_ble_eq_true rfl, Nat.le_of_ble_eq_true rfl⟩ dX8_budgeted_96 (fun H locs hst => ?_)
            obtain ⟨e1, e2⟩ := sinj hf
            subst e1
            subst e2
            exact w_iret C hst dX8_budgeted_99
          · have hf := ifn c_10_3 hf
            by_cases c_10_4 : x2 = (4 : Int32)
            · have hf := ifp c_10_4 hf
              refine lv_tableIn (tgt := 100) hx hb dX8_budgeted_10 (by rw [c_10_4]; decide) (by rw [c_10_4]; decide) (by rw [c_10_4]; rfl) (by decide) ?_
              refine lv_aload_n hx hb dX8_budgeted_100 rfl (lv_at hl 0 rfl) ?_
              refine gf_X8_67 C hst dX8_budgeted_101 ?_
              refine lv_iload_n hx hb dX8_budgeted_104 rfl (lv_at hl 1 rfl) ?_
              refine lv_aload_n hx hb dX8_budgeted_105 rfl (lv_at hl 0 rfl) ?_
              refine gf_X8_58 C hst dX8_budgeted_106 ?_
              refine lv_iload_n hx hb dX8_budgeted_109 rfl (lv_at hl 1 rfl) ?_
              obtain ⟨r_110, M_110, hc_110, hf⟩ := obi_some hf
              refine w_cVi (As := [.int x1]) (rest := [.int x1, .ref (a 23)]) C (wB_ad cI cZ a) (mX0_forecastLow l D cI cZ a x1 M_1 r_110 M_110 hc_110) calX0_forecastLow cavX0_forecastLow (mU3 11 rfl rfl) hst hl.1 22 0 rfl rfl rfl rfl (Nat.le_of_ble_eq_true rfl) ⟨Nat.le_of_ble_eq_true rfl, Nat.le_of_ble_eq_true rfl⟩ dX8_budgeted_110 (fun H locs hst => ?_)
              obtain ⟨r_113, M_113, hc_113, hf⟩ := obi_some hf
              refine w_cVi (As := [.int x1, .int r_110]) (rest := []) C (wB_ad cI cZ a) (mX1_atEnd l D cI cZ a x1 r_110 M_110 r_113 M_113 hc_113) calX1_atEnd cavX1_atEnd (mU3 40 rfl rfl) hst hl.1 23 1 rfl rfl rfl rfl (Nat.le_of_ble_eq_true rfl) ⟨Nat.le_of_ble_eq_true rfl, Nat.le_of_ble_eq_true rfl⟩ dX8_budgeted_113 (fun H locs hst => ?_)
              obtain ⟨e1, e2⟩ := sinj hf
              subst e1
              subst e2
              exact w_iret C hst dX8_budgeted_116
            · have hf := ifn c_10_4 hf
              by_cases c_10_5 : x2 = (5 : Int32)
              · have hf := ifp c_10_5 hf
                refine lv_tableIn (tgt := 117) hx hb dX8_budgeted_10 (by rw [c_10_5]; decide) (by rw [c_10_5]; decide) (by rw [c_10_5]; rfl) (by decide) ?_
                refine lv_aload_n hx hb dX8_budgeted_117 rfl (lv_at hl 0 rfl) ?_
                refine gf_X8_67 C hst dX8_budgeted_118 ?_
                refine lv_iload_n hx hb dX8_budgeted_121 rfl (lv_at hl 1 rfl) ?_
                refine lv_aload_n hx hb dX8_budgeted_122 rfl (lv_at hl 0 rfl) ?_
                refine gf_X8_58 C hst dX8_budgeted_123 ?_
                refine lv_iload_n hx hb dX8_budgeted_126 rfl (lv_at hl 1 rfl) ?_
                obtain ⟨r_127, M_127, hc_127, hf⟩ := obi_some hf
                refine w_cVi (As := [.int x1]) (rest := [.int x1, .ref (a 23)]) C (wB_ad cI cZ a) (mX0_forecastHigh l D cI cZ a x1 M_1 r_127 M_127 hc_127) calX0_forecastHigh cavX0_forecastHigh (mU3 32 rfl rfl) hst hl.1 22 0 rfl rfl rfl rfl (Nat.le_of_ble_eq_true rfl) ⟨Nat.le_of_ble_eq_true rfl, Nat.le_of_ble_eq_true rfl⟩ dX8_budgeted_127 (fun H locs hst => ?_)
                obtain ⟨r_130, M_130, hc_130, hf⟩ := obi_some hf
                refine w_cVi (As := [.int x1, .int r_127]) (rest := []) C (wB_ad cI cZ a) (mX1_atEnd l D cI cZ a x1 r_127 M_127 r_130 M_130 hc_130) calX1_atEnd cavX1_atEnd (mU3 40 rfl rfl) hst hl.1 23 1 rfl rfl rfl rfl (Nat.le_of_ble_eq_true rfl) ⟨Nat.le_of_ble_eq_true rfl, Nat.le_of_ble_eq_true rfl⟩ dX8_budgeted_130 (fun H locs hst => ?_)
                obtain ⟨e1, e2⟩ := sinj hf
                subst e1
                subst e2
                exact w_iret C hst dX8_budgeted_133
              · have hf := ifn c_10_5 hf
                refine lv_tableOut (tgt := 134) hx hb dX8_budgeted_10 (tsO 5 (fun k hk => by rcases (show k = 0 ∨ k = 1 ∨ k = 2 ∨ k = 3 ∨ k = 4 ∨ k = 5 by omega) with rfl | rfl | rfl | rfl | rfl | rfl <;> assumption)) (by decide) ?_
                refine lv_iconst (v := -1) hx hb dX8_budgeted_134 (by decide) ?_
                obtain ⟨e1, e2⟩ := sinj hf
                subst e1
                subst e2
                exact w_iret C hst dX8_budgeted_135
  · have hf := ifp c_4 hf
    refine lv_iconst (v := -1) hx hb dX8_budgeted_7 (by decide) ?_
    obtain ⟨e1, e2⟩ := sinj hf
    subst e1
    subst e2
    exact w_iret C hst dX8_budgeted_8
set_option maxRecDepth 100000 in
theorem mX8_budgeted (l : Launch) (D : va_G) (cI cZ : ClassId) (a : Nat → Nat) (x1 x2 : Int32) (M : Mem) (r : Int32) (M' : Mem) (hf : fX8_budgeted x1 x2 M = some (r, M')) : MI l D cI cZ (wB cI cZ a) yX8_budgeted cX8_budgeted 3 (some .int) 6 149 [.ref (a 0), .int x1, .int x2] M r M' :=
  MI.of (by decide) (Nat.le_of_ble_eq_true rfl) (fun p e s m args below meth c A C hst ls hl => kX8_budgeted_0 C x1 x2 M s.heap [] ls hf hst hl)


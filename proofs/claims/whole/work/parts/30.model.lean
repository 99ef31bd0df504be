def fX9_isIn (x0 x1 x2 : Int32) (M : Mem) : Res :=
  (if x0 < x1 then some ((0 : Int32), M) else (if x2 < x0 then some ((0 : Int32), M) else some ((1 : Int32), M)))
theorem calX9_isIn : Cal yX9_isIn cX9_isIn 3 (some .boolean) 3 := ⟨(mU3 137 rfl rfl), (mU1 10 rfl rfl), by decide +kernel⟩
theorem casX9_isIn : Cond.static yX9_isIn ∈ UU := (mU3 136 rfl rfl)
set_option maxHeartbeats 4000000 in
set_option maxRecDepth 100000 in
theorem kX9_isIn_0 {p : Program} {l : Launch} {e : Env} {s : State} {m : MethodId} {args : Array Value} {below : List Frame} {meth : Method} {c : Code} {D : va_G} {cI cZ : ClassId} {a : Nat → Nat} {A : Nat → Prop} {r : Int32} {M' : Mem} (C : Cx p s m args meth c cX9_isIn 3 RX9 (some .boolean) D cI cZ A)  (x0 x1 x2 : Int32) (M : Mem) (H : Heap) (locs : List Loc) (ls : Array Slot) (hf : fX9_isIn x0 x1 x2 M = some (r, M')) (hst : St D (wM cI cZ a) A s.heap H locs M) (hl : lv_has ls 3 [(0, .int x0), (1, .int x1), (2, .int x2)]) : Wi p l e { frames := 0, cells := 0, slots := 0, locals := 0 } s m args below meth c D (wM cI cZ a) A r M' H locs (F0 m 0 ls []) := by
  unfold fX9_isIn at hf
  obtain ⟨hx, hb, hml, hown, hU, hr, hlk, hK, hA⟩ := id C
  refine lv_iload_n hx hb dX9_isIn_0 rfl (lv_at hl 0 rfl) ?_
  refine lv_iload_n hx hb dX9_isIn_1 rfl (lv_at hl 1 rfl) ?_
  refine lv_icmp_lt (tgt := 14) hx hb dX9_isIn_2 (by decide) (fun c_2 => ?_) (fun c_2 => ?_)
  · have hf := ifp c_2 hf
    refine lv_iconst (v := 0) hx hb dX9_isIn_14 (by decide) ?_
    obtain ⟨e1, e2⟩ := sinj hf
    subst e1
    subst e2
    exact w_zret C rfl hst dX9_isIn_15
  · have hf := ifn c_2 hf
    refine lv_iload_n hx hb dX9_isIn_5 rfl (lv_at hl 0 rfl) ?_
    refine lv_iload_n hx hb dX9_isIn_6 rfl (lv_at hl 2 rfl) ?_
    refine lv_icmp_gt (tgt := 14) hx hb dX9_isIn_7 (by decide) (fun c_7 => ?_) (fun c_7 => ?_)
    · have hf := ifp c_7 hf
      refine lv_iconst (v := 0) hx hb dX9_isIn_14 (by decide) ?_
      obtain ⟨e1, e2⟩ := sinj hf
      subst e1
      subst e2
      exact w_zret C rfl hst dX9_isIn_15
    · have hf := ifn c_7 hf
      refine lv_iconst (v := 1) hx hb dX9_isIn_10 (by decide) ?_
      refine lv_goto (tgt := 15) hx hb dX9_isIn_11 (by decide) ?_
      obtain ⟨e1, e2⟩ := sinj hf
      subst e1
      subst e2
      exact w_zret C rfl hst dX9_isIn_15
set_option maxRecDepth 100000 in
theorem mX9_isIn (l : Launch) (D : va_G) (cI cZ : ClassId) (a : Nat → Nat) (x0 x1 x2 : Int32) (M : Mem) (r : Int32) (M' : Mem) (hf : fX9_isIn x0 x1 x2 M = some (r, M')) : MI l D cI cZ (wM cI cZ a) yX9_isIn cX9_isIn 3 (some .boolean) 0 0 [.int x0, .int x1, .int x2] M r M' :=
  MI.of (by decide) (Nat.le_of_ble_eq_true rfl) (fun p e s m args below meth c A C hst ls hl => kX9_isIn_0 C x0 x1 x2 M s.heap [] ls hf hst hl)

def fX9_isService (x0 : Int32) (M : Mem) : Res :=
  obi (fX9_isIn x0 (0 : Int32) (5 : Int32) M) (fun r_3 M_3 => if ¬ (r_3 = 0 ∨ r_3 = 1) then none else some (r_3, M_3))
theorem calX9_isService : Cal yX9_isService cX9_isService 1 (some .boolean) 1 := ⟨(mU3 134 rfl rfl), (mU1 10 rfl rfl), by decide +kernel⟩
theorem casX9_isService : Cond.static yX9_isService ∈ UU := (mU3 133 rfl rfl)
set_option maxHeartbeats 4000000 in
set_option maxRecDepth 100000 in
theorem kX9_isService_0 {p : Program} {l : Launch} {e : Env} {s : State} {m : MethodId} {args : Array Value} {below : List Frame} {meth : Method} {c : Code} {D : va_G} {cI cZ : ClassId} {a : Nat → Nat} {A : Nat → Prop} {r : Int32} {M' : Mem} (C : Cx p s m args meth c cX9_isService 1 RX9 (some .boolean) D cI cZ A)  (x0 : Int32) (M : Mem) (H : Heap) (locs : List Loc) (ls : Array Slot) (hf : fX9_isService x0 M = some (r, M')) (hst : St D (wM cI cZ a) A s.heap H locs M) (hl : lv_has ls 1 [(0, .int x0)]) : Wi p l e { frames := 1, cells := 0, slots := 0, locals := 22 } s m args below meth c D (wM cI cZ a) A r M' H locs (F0 m 0 ls []) := by
  unfold fX9_isService at hf
  obtain ⟨hx, hb, hml, hown, hU, hr, hlk, hK, hA⟩ := id C
  refine lv_iload_n hx hb dX9_isService_0 rfl (lv_at hl 0 rfl) ?_
  refine lv_iconst (v := 0) hx hb dX9_isService_1 (by decide) ?_
  refine lv_iconst (v := 5) hx hb dX9_isService_2 (by decide) ?_
  obtain ⟨r_3, M_3, hc_3, hf⟩ := obi_some hf
  refine w_cSi (As := [.int x0, .int (0 : Int32), .int (5 : Int32)]) (rest := []) C (wM_ad cI cZ a) (mX9_isIn l D cI cZ a x0 (0 : Int32) (5 : Int32) M r_3 M_3 hc_3) calX9_isIn casX9_isIn (mU3 135 rfl rfl) hst hl.1 rfl rfl (Nat.le_of_ble_eq_true rfl) ⟨Nat.le_of_ble_eq_true rfl, Nat.le_of_ble_eq_true rfl⟩ dX9_isService_3 (fun H locs hst => ?_)
  obtain ⟨h_6, hf⟩ := og hf
  obtain ⟨e1, e2⟩ := sinj hf
  subst e1
  subst e2
  exact w_zret C (ng h_6) hst dX9_isService_6
set_option maxRecDepth 100000 in
theorem mX9_isService (l : Launch) (D : va_G) (cI cZ : ClassId) (a : Nat → Nat) (x0 : Int32) (M : Mem) (r : Int32) (M' : Mem) (hf : fX9_isService x0 M = some (r, M')) : MI l D cI cZ (wM cI cZ a) yX9_isService cX9_isService 1 (some .boolean) 1 22 [.int x0] M r M' :=
  MI.of (by decide) (Nat.le_of_ble_eq_true rfl) (fun p e s m args below meth c A C hst ls hl => kX9_isService_0 C x0 M s.heap [] ls hf hst hl)

def fX9_isOwner (x0 : Int32) (M : Mem) : Res :=
  obi (fX9_isIn x0 (0 : Int32) (3 : Int32) M) (fun r_3 M_3 => if ¬ (r_3 = 0 ∨ r_3 = 1) then none else some (r_3, M_3))
theorem calX9_isOwner : Cal yX9_isOwner cX9_isOwner 1 (some .boolean) 1 := ⟨(mU3 140 rfl rfl), (mU1 10 rfl rfl), by decide +kernel⟩
theorem casX9_isOwner : Cond.static yX9_isOwner ∈ UU := (mU3 139 rfl rfl)
set_option maxHeartbeats 4000000 in
set_option maxRecDepth 100000 in
theorem kX9_isOwner_0 {p : Program} {l : Launch} {e : Env} {s : State} {m : MethodId} {args : Array Value} {below : List Frame} {meth : Method} {c : Code} {D : va_G} {cI cZ : ClassId} {a : Nat → Nat} {A : Nat → Prop} {r : Int32} {M' : Mem} (C : Cx p s m args meth c cX9_isOwner 1 RX9 (some .boolean) D cI cZ A)  (x0 : Int32) (M : Mem) (H : Heap) (locs : List Loc) (ls : Array Slot) (hf : fX9_isOwner x0 M = some (r, M')) (hst : St D (wM cI cZ a) A s.heap H locs M) (hl : lv_has ls 1 [(0, .int x0)]) : Wi p l e { frames := 1, cells := 0, slots := 0, locals := 22 } s m args below meth c D (wM cI cZ a) A r M' H locs (F0 m 0 ls []) := by
  unfold fX9_isOwner at hf
  obtain ⟨hx, hb, hml, hown, hU, hr, hlk, hK, hA⟩ := id C
  refine lv_iload_n hx hb dX9_isOwner_0 rfl (lv_at hl 0 rfl) ?_
  refine lv_iconst (v := 0) hx hb dX9_isOwner_1 (by decide) ?_
  refine lv_iconst (v := 3) hx hb dX9_isOwner_2 (by decide) ?_
  obtain ⟨r_3, M_3, hc_3, hf⟩ := obi_some hf
  refine w_cSi (As := [.int x0, .int (0 : Int32), .int (3 : Int32)]) (rest := []) C (wM_ad cI cZ a) (mX9_isIn l D cI cZ a x0 (0 : Int32) (3 : Int32) M r_3 M_3 hc_3) calX9_isIn casX9_isIn (mU3 135 rfl rfl) hst hl.1 rfl rfl (Nat.le_of_ble_eq_true rfl) ⟨Nat.le_of_ble_eq_true rfl, Nat.le_of_ble_eq_true rfl⟩ dX9_isOwner_3 (fun H locs hst => ?_)
  obtain ⟨h_6, hf⟩ := og hf
  obtain ⟨e1, e2⟩ := sinj hf
  subst e1
  subst e2
  exact w_zret C (ng h_6) hst dX9_isOwner_6
set_option maxRecDepth 100000 in
theorem mX9_isOwner (l : Launch) (D : va_G) (cI cZ : ClassId) (a : Nat → Nat) (x0 : Int32) (M : Mem) (r : Int32) (M' : Mem) (hf : fX9_isOwner x0 M = some (r, M')) : MI l D cI cZ (wM cI cZ a) yX9_isOwner cX9_isOwner 1 (some .boolean) 1 22 [.int x0] M r M' :=
  MI.of (by decide) (Nat.le_of_ble_eq_true rfl) (fun p e s m args below meth c A C hst ls hl => kX9_isOwner_0 C x0 M s.heap [] ls hf hst hl)

def fX9_owner (x1 x2 : Int32) (M : Mem) : Res :=
  obi (fX9_isService x1 M) (fun r_1 M_1 => (if r_1 = 0 then some ((0 : Int32), M_1) else obi (fX9_isOwner x2 M_1) (fun r_8 M_8 => (if r_8 = 0 then some ((0 : Int32), M_8) else if x1 < 0 ∨ 6 ≤ Int32.toNatClampNeg x1 then none else some ((1 : Int32), (upM (upM M_8 4 (Int32.toNatClampNeg x1) x2) 3 (Int32.toNatClampNeg x1) (0 : Int32)))))))
theorem calX9_owner : Cal yX9_owner cX9_owner 3 (some .boolean) 2 := ⟨(mU3 131 rfl rfl), (mU1 10 rfl rfl), by decide +kernel⟩
theorem cavX9_owner : CalV yX9_owner := ⟨(mU3 129 rfl rfl), (mU3 130 rfl rfl)⟩
set_option maxHeartbeats 4000000 in
set_option maxRecDepth 100000 in
theorem kX9_owner_0 {p : Program} {l : Launch} {e : Env} {s : State} {m : MethodId} {args : Array Value} {below : List Frame} {meth : Method} {c : Code} {D : va_G} {cI cZ : ClassId} {a : Nat → Nat} {A : Nat → Prop} {r : Int32} {M' : Mem} (C : Cx p s m args meth c cX9_owner 3 RX9 (some .boolean) D cI cZ A)  (x1 x2 : Int32) (M : Mem) (H : Heap) (locs : List Loc) (ls : Array Slot) (hf : fX9_owner x1 x2 M = some (r, M')) (hst : St D (wM cI cZ a) A s.heap H locs M) (hl : lv_has ls 3 [(0, .ref (a 0)), (1, .int x1), (2, .int x2)]) : Wi p l e { frames := 2, cells := 0, slots := 0, locals := 42 } s m args below meth c D (wM cI cZ a) A r M' H locs (F0 m 0 ls []) := by
  unfold fX9_owner at hf
  obtain ⟨hx, hb, hml, hown, hU, hr, hlk, hK, hA⟩ := id C
  refine lv_iload_n hx hb dX9_owner_0 rfl (lv_at hl 1 rfl) ?_
  obtain ⟨r_1, M_1, hc_1, hf⟩ := obi_some hf
  refine w_cSi (As := [.int x1]) (rest := []) C (wM_ad cI cZ a) (mX9_isService l D cI cZ a x1 M r_1 M_1 hc_1) calX9_isService casX9_isService (mU3 132 rfl rfl) hst hl.1 rfl rfl (Nat.le_of_ble_eq_true rfl) ⟨Nat.le_of_ble_eq_true rfl, Nat.le_of_ble_eq_true rfl⟩ dX9_owner_1 (fun H locs hst => ?_)
  refine lv_if_eq (tgt := 14) hx hb dX9_owner_4 (by decide) (fun c_4 => ?_) (fun c_4 => ?_)
  · have hf := ifp c_4 hf
    refine lv_iconst (v := 0) hx hb dX9_owner_14 (by decide) ?_
    obtain ⟨e1, e2⟩ := sinj hf
    subst e1
    subst e2
    exact w_zret C rfl hst dX9_owner_15
  · have hf := ifn c_4 hf
    refine lv_iload_n hx hb dX9_owner_7 rfl (lv_at hl 2 rfl) ?_
    obtain ⟨r_8, M_8, hc_8, hf⟩ := obi_some hf
    refine w_cSi (As := [.int x2]) (rest := []) C (wM_ad cI cZ a) (mX9_isOwner l D cI cZ a x2 M_1 r_8 M_8 hc_8) calX9_isOwner casX9_isOwner (mU3 138 rfl rfl) hst hl.1 rfl rfl (Nat.le_of_ble_eq_true rfl) ⟨Nat.le_of_ble_eq_true rfl, Nat.le_of_ble_eq_true rfl⟩ dX9_owner_8 (fun H locs hst => ?_)
    refine lv_if_ne (tgt := 16) hx hb dX9_owner_11 (by decide) (fun c_11 => ?_) (fun c_11 => ?_)
    · have hf := ifn c_11 hf
      refine lv_aload_n hx hb dX9_owner_16 rfl (lv_at hl 0 rfl) ?_
      refine gf_X9_24 C hst dX9_owner_17 ?_
      refine lv_iload_n hx hb dX9_owner_20 rfl (lv_at hl 1 rfl) ?_
      refine lv_iload_n hx hb dX9_owner_21 rfl (lv_at hl 2 rfl) ?_
      obtain ⟨h_22, hf⟩ := og hf
      refine w_iast (N := 6) (f := M_8 4) (M' := (upM M_8 4 (Int32.toNatClampNeg x1) x2)) C hst 4 rfl (wM_set4 cI cZ a M_8 (Int32.toNatClampNeg x1) x2) h_22 dX9_owner_22 (fun H locs hst => ?_)
      refine lv_aload_n hx hb dX9_owner_23 rfl (lv_at hl 0 rfl) ?_
      refine gf_X9_20 C hst dX9_owner_24 ?_
      refine lv_iload_n hx hb dX9_owner_27 rfl (lv_at hl 1 rfl) ?_
      refine lv_iconst (v := 0) hx hb dX9_owner_28 (by decide) ?_
      refine w_zast (N := 6) (f := (upM M_8 4 (Int32.toNatClampNeg x1) x2) 3) (M' := (upM (upM M_8 4 (Int32.toNatClampNeg x1) x2) 3 (Int32.toNatClampNeg x1) (0 : Int32))) C hst 3 rfl rfl (wM_set3 cI cZ a (upM M_8 4 (Int32.toNatClampNeg x1) x2) (Int32.toNatClampNeg x1) (0 : Int32)) h_22 dX9_owner_29 (fun H locs hst => ?_)
      refine lv_iconst (v := 1) hx hb dX9_owner_30 (by decide) ?_
      obtain ⟨e1, e2⟩ := sinj hf
      subst e1
      subst e2
      exact w_zret C rfl hst dX9_owner_31
    · have hf := ifp c_11 hf
      refine lv_iconst (v := 0) hx hb dX9_owner_14 (by decide) ?_
      obtain ⟨e1, e2⟩ := sinj hf
      subst e1
      subst e2
      exact w_zret C rfl hst dX9_owner_15
set_option maxRecDepth 100000 in
theorem mX9_owner (l : Launch) (D : va_G) (cI cZ : ClassId) (a : Nat → Nat) (x1 x2 : Int32) (M : Mem) (r : Int32) (M' : Mem) (hf : fX9_owner x1 x2 M = some (r, M')) : MI l D cI cZ (wM cI cZ a) yX9_owner cX9_owner 3 (some .boolean) 2 42 [.ref (a 0), .int x1, .int x2] M r M' :=
  MI.of (by decide) (Nat.le_of_ble_eq_true rfl) (fun p e s m args below meth c A C hst ls hl => kX9_owner_0 C x1 x2 M s.heap [] ls hf hst hl)

def fX9_share (x1 x2 x3 x4 x5 : Int32) (M : Mem) : Res :=
  obi (fX9_isService x1 M) (fun r_1 M_1 => (if r_1 = 0 then some ((0 : Int32), M_1) else obi (fX9_isIn x2 (0 : Int32) (9 : Int32) M_1) (fun r_11 M_11 => (if r_11 = 0 then some ((0 : Int32), M_11) else obi (fX9_isIn x3 (0 : Int32) (9 : Int32) M_11) (fun r_21 M_21 => (if r_21 = 0 then some ((0 : Int32), M_21) else obi (fX9_isIn x4 (0 : Int32) (9 : Int32) M_21) (fun r_32 M_32 => (if r_32 = 0 then some ((0 : Int32), M_32) else obi (fX9_isIn x5 (0 : Int32) (9 : Int32) M_32) (fun r_43 M_43 => (if r_43 = 0 then some ((0 : Int32), M_43) else (if (((x2 + x3) + x4) + x5) = 0 then some ((0 : Int32), M_43) else if x1 < 0 ∨ 6 ≤ Int32.toNatClampNeg x1 then none else if ((4 : Int32) * x1) < 0 ∨ 24 ≤ Int32.toNatClampNeg ((4 : Int32) * x1) then none else if (((4 : Int32) * x1) + (1 : Int32)) < 0 ∨ 24 ≤ Int32.toNatClampNeg (((4 : Int32) * x1) + (1 : Int32)) then none else if (((4 : Int32) * x1) + (2 : Int32)) < 0 ∨ 24 ≤ Int32.toNatClampNeg (((4 : Int32) * x1) + (2 : Int32)) then none else if (((4 : Int32) * x1) + (3 : Int32)) < 0 ∨ 24 ≤ Int32.toNatClampNeg (((4 : Int32) * x1) + (3 : Int32)) then none else some ((1 : Int32), (upM (upM (upM (upM (upM M_43 3 (Int32.toNatClampNeg x1) (1 : Int32)) 1 (Int32.toNatClampNeg ((4 : Int32) * x1)) x2) 1 (Int32.toNatClampNeg (((4 : Int32) * x1) + (1 : Int32))) x3) 1 (Int32.toNatClampNeg (((4 : Int32) * x1) + (2 : Int32))) x4) 1 (Int32.toNatClampNeg (((4 : Int32) * x1) + (3 : Int32))) x5)))))))))))))
theorem calX9_share : Cal yX9_share cX9_share 6 (some .boolean) 5 := ⟨(mU3 144 rfl rfl), (mU1 10 rfl rfl), by decide +kernel⟩
theorem cavX9_share : CalV yX9_share := ⟨(mU3 142 rfl rfl), (mU3 143 rfl rfl)⟩
set_option maxHeartbeats 4000000 in
set_option maxRecDepth 100000 in
theorem kX9_share_0 {p : Program} {l : Launch} {e : Env} {s : State} {m : MethodId} {args : Array Value} {below : List Frame} {meth : Method} {c : Code} {D : va_G} {cI cZ : ClassId} {a : Nat → Nat} {A : Nat → Prop} {r : Int32} {M' : Mem} (C : Cx p s m args meth c cX9_share 6 RX9 (some .boolean) D cI cZ A)  (x1 x2 x3 x4 x5 : Int32) (M : Mem) (H : Heap) (locs : List Loc) (ls : Array Slot) (hf : fX9_share x1 x2 x3 x4 x5 M = some (r, M')) (hst : St D (wM cI cZ a) A s.heap H locs M) (hl : lv_has ls 6 [(0, .ref (a 0)), (1, .int x1), (2, .int x2), (3, .int x3), (4, .int x4), (5, .int x5)]) : Wi p l e { frames := 2, cells := 0, slots := 0, locals := 42 } s m args below meth c D (wM cI cZ a) A r M' H locs (F0 m 0 ls []) := by
  unfold fX9_share at hf
  obtain ⟨hx, hb, hml, hown, hU, hr, hlk, hK, hA⟩ := id C
  refine lv_iload_n hx hb dX9_share_0 rfl (lv_at hl 1 rfl) ?_
  obtain ⟨r_1, M_1, hc_1, hf⟩ := obi_some hf
  refine w_cSi (As := [.int x1]) (rest := []) C (wM_ad cI cZ a) (mX9_isService l D cI cZ a x1 M r_1 M_1 hc_1) calX9_isService casX9_isService (mU3 132 rfl rfl) hst hl.1 rfl rfl (Nat.le_of_ble_eq_true rfl) ⟨Nat.le_of_ble_eq_true rfl, Nat.le_of_ble_eq_true rfl⟩ dX9_share_1 (fun H locs hst => ?_)
  refine lv_if_eq (tgt := 61) hx hb dX9_share_4 (by decide) (fun c_4 => ?_) (fun c_4 => ?_)
  · have hf := ifp c_4 hf
    refine lv_iconst (v := 0) hx hb dX9_share_61 (by decide) ?_
    obtain ⟨e1, e2⟩ := sinj hf
    subst e1
    subst e2
    exact w_zret C rfl hst dX9_share_62
  · have hf := ifn c_4 hf
    refine lv_iload_n hx hb dX9_share_7 rfl (lv_at hl 2 rfl) ?_
    refine lv_iconst (v := 0) hx hb dX9_share_8 (by decide) ?_
    refine lv_bipush (v := 9) hx hb dX9_share_9 (by decide) ?_
    obtain ⟨r_11, M_11, hc_11, hf⟩ := obi_some hf
    refine w_cSi (As := [.int x2, .int (0 : Int32), .int (9 : Int32)]) (rest := []) C (wM_ad cI cZ a) (mX9_isIn l D cI cZ a x2 (0 : Int32) (9 : Int32) M_1 r_11 M_11 hc_11) calX9_isIn casX9_isIn (mU3 135 rfl rfl) hst hl.1 rfl rfl (Nat.le_of_ble_eq_true rfl) ⟨Nat.le_of_ble_eq_true rfl, Nat.le_of_ble_eq_true rfl⟩ dX9_share_11 (fun H locs hst => ?_)
    refine lv_if_eq (tgt := 61) hx hb dX9_share_14 (by decide) (fun c_14 => ?_) (fun c_14 => ?_)
    · have hf := ifp c_14 hf
      refine lv_iconst (v := 0) hx hb dX9_share_61 (by decide) ?_
      obtain ⟨e1, e2⟩ := sinj hf
      subst e1
      subst e2
      exact w_zret C rfl hst dX9_share_62
    · have hf := ifn c_14 hf
      refine lv_iload_n hx hb dX9_share_17 rfl (lv_at hl 3 rfl) ?_
      refine lv_iconst (v := 0) hx hb dX9_share_18 (by decide) ?_
      refine lv_bipush (v := 9) hx hb dX9_share_19 (by decide) ?_
      obtain ⟨r_21, M_21, hc_21, hf⟩ := obi_some hf
      refine w_cSi (As := [.int x3, .int (0 : Int32), .int (9 : Int32)]) (rest := []) C (wM_ad cI cZ a) (mX9_isIn l D cI cZ a x3 (0 : Int32) (9 : Int32) M_11 r_21 M_21 hc_21) calX9_isIn casX9_isIn (mU3 135 rfl rfl) hst hl.1 rfl rfl (Nat.le_of_ble_eq_true rfl) ⟨Nat.le_of_ble_eq_true rfl, Nat.le_of_ble_eq_true rfl⟩ dX9_share_21 (fun H locs hst => ?_)
      refine lv_if_eq (tgt := 61) hx hb dX9_share_24 (by decide) (fun c_24 => ?_) (fun c_24 => ?_)
      · have hf := ifp c_24 hf
        refine lv_iconst (v := 0) hx hb dX9_share_61 (by decide) ?_
        obtain ⟨e1, e2⟩ := sinj hf
        subst e1
        subst e2
        exact w_zret C rfl hst dX9_share_62
      · have hf := ifn c_24 hf
        refine lv_iload hx hb dX9_share_27 (lv_at hl 4 rfl) ?_
        refine lv_iconst (v := 0) hx hb dX9_share_29 (by decide) ?_
        refine lv_bipush (v := 9) hx hb dX9_share_30 (by decide) ?_
        obtain ⟨r_32, M_32, hc_32, hf⟩ := obi_some hf
        refine w_cSi (As := [.int x4, .int (0 : Int32), .int (9 : Int32)]) (rest := []) C (wM_ad cI cZ a) (mX9_isIn l D cI cZ a x4 (0 : Int32) (9 : Int32) M_21 r_32 M_32 hc_32) calX9_isIn casX9_isIn (mU3 135 rfl rfl) hst hl.1 rfl rfl (Nat.le_of_ble_eq_true rfl) ⟨Nat.le_of_ble_eq_true rfl, Nat.le_of_ble_eq_true rfl⟩ dX9_share_32 (fun H locs hst => ?_)
        refine lv_if_eq (tgt := 61) hx hb dX9_share_35 (by decide) (fun c_35 => ?_) (fun c_35 => ?_)
        · have hf := ifp c_35 hf
          refine lv_iconst (v := 0) hx hb dX9_share_61 (by decide) ?_
          obtain ⟨e1, e2⟩ := sinj hf
          subst e1
          subst e2
          exact w_zret C rfl hst dX9_share_62
        · have hf := ifn c_35 hf
          refine lv_iload hx hb dX9_share_38 (lv_at hl 5 rfl) ?_
          refine lv_iconst (v := 0) hx hb dX9_share_40 (by decide) ?_
          refine lv_bipush (v := 9) hx hb dX9_share_41 (by decide) ?_
          obtain ⟨r_43, M_43, hc_43, hf⟩ := obi_some hf
          refine w_cSi (As := [.int x5, .int (0 : Int32), .int (9 : Int32)]) (rest := []) C (wM_ad cI cZ a) (mX9_isIn l D cI cZ a x5 (0 : Int32) (9 : Int32) M_32 r_43 M_43 hc_43) calX9_isIn casX9_isIn (mU3 135 rfl rfl) hst hl.1 rfl rfl (Nat.le_of_ble_eq_true rfl) ⟨Nat.le_of_ble_eq_true rfl, Nat.le_of_ble_eq_true rfl⟩ dX9_share_43 (fun H locs hst => ?_)
          refine lv_if_eq (tgt := 61) hx hb dX9_share_46 (by decide) (fun c_46 => ?_) (fun c_46 => ?_)
          · have hf := ifp c_46 hf
            refine lv_iconst (v := 0) hx hb dX9_share_61 (by decide) ?_
            obtain ⟨e1, e2⟩ := sinj hf
            subst e1
            subst e2
            exact w_zret C rfl hst dX9_share_62
          · have hf := ifn c_46 hf
            refine lv_iload_n hx hb dX9_share_49 rfl (lv_at hl 2 rfl) ?_
            refine lv_iload_n hx hb dX9_share_50 rfl (lv_at hl 3 rfl) ?_
            refine lv_iadd hx hb dX9_share_51 ?_
            refine lv_iload hx hb dX9_share_52 (lv_at hl 4 rfl) ?_
            refine lv_iadd hx hb dX9_share_54 ?_
            refine lv_iload hx hb dX9_share_55 (lv_at hl 5 rfl) ?_
            refine lv_iadd hx hb dX9_share_57 ?_
            refine lv_if_ne (tgt := 63) hx hb dX9_share_58 (by decide) (fun c_58 => ?_) (fun c_58 => ?_)
            · have hf := ifn c_58 hf
              refine lv_aload_n hx hb dX9_share_63 rfl (lv_at hl 0 rfl) ?_
              refine gf_X9_20 C hst dX9_share_64 ?_
              refine lv_iload_n hx hb dX9_share_67 rfl (lv_at hl 1 rfl) ?_
              refine lv_iconst (v := 1) hx hb dX9_share_68 (by decide) ?_
              obtain ⟨h_69, hf⟩ := og hf
              refine w_zast (N := 6) (f := M_43 3) (M' := (upM M_43 3 (Int32.toNatClampNeg x1) (1 : Int32))) C hst 3 rfl rfl (wM_set3 cI cZ a M_43 (Int32.toNatClampNeg x1) (1 : Int32)) h_69 dX9_share_69 (fun H locs hst => ?_)
              refine lv_aload_n hx hb dX9_share_70 rfl (lv_at hl 0 rfl) ?_
              refine gf_X9_13 C hst dX9_share_71 ?_
              refine lv_iconst (v := 4) hx hb dX9_share_74 (by decide) ?_
              refine lv_iload_n hx hb dX9_share_75 rfl (lv_at hl 1 rfl) ?_
              refine lv_imul hx hb dX9_share_76 ?_
              refine lv_iload_n hx hb dX9_share_77 rfl (lv_at hl 2 rfl) ?_
              obtain ⟨h_78, hf⟩ := og hf
              refine w_iast (N := 24) (f := (upM M_43 3 (Int32.toNatClampNeg x1) (1 : Int32)) 1) (M' := (upM (upM M_43 3 (Int32.toNatClampNeg x1) (1 : Int32)) 1 (Int32.toNatClampNeg ((4 : Int32) * x1)) x2)) C hst 1 rfl (wM_set1 cI cZ a (upM M_43 3 (Int32.toNatClampNeg x1) (1 : Int32)) (Int32.toNatClampNeg ((4 : Int32) * x1)) x2) h_78 dX9_share_78 (fun H locs hst => ?_)
              refine lv_aload_n hx hb dX9_share_79 rfl (lv_at hl 0 rfl) ?_
              refine gf_X9_13 C hst dX9_share_80 ?_
              refine lv_iconst (v := 4) hx hb dX9_share_83 (by decide) ?_
              refine lv_iload_n hx hb dX9_share_84 rfl (lv_at hl 1 rfl) ?_
              refine lv_imul hx hb dX9_share_85 ?_
              refine lv_iconst (v := 1) hx hb dX9_share_86 (by decide) ?_
              refine lv_iadd hx hb dX9_share_87 ?_
              refine lv_iload_n hx hb dX9_share_88 rfl (lv_at hl 3 rfl) ?_
              obtain ⟨h_89, hf⟩ := og hf
              refine w_iast (N := 24) (f := (upM (upM M_43 3 (Int32.toNatClampNeg x1) (1 : Int32)) 1 (Int32.toNatClampNeg ((4 : Int32) * x1)) x2) 1) (M' := (upM (upM (upM M_43 3 (Int32.toNatClampNeg x1) (1 : Int32)) 1 (Int32.toNatClampNeg ((4 : Int32) * x1)) x2) 1 (Int32.toNatClampNeg (((4 : Int32) * x1) + (1 : Int32))) x3)) C hst 1 rfl (wM_set1 cI cZ a (upM (upM M_43 3 (Int32.toNatClampNeg x1) (1 : Int32)) 1 (Int32.toNatClampNeg ((4 : Int32) * x1)) x2) (Int32.toNatClampNeg (((4 : Int32) * x1) + (1 : Int32))) x3) h_89 dX9_share_89 (fun H locs hst => ?_)
              refine lv_aload_n hx hb dX9_share_90 rfl (lv_at hl 0 rfl) ?_
              refine gf_X9_13 C hst dX9_share_91 ?_
              refine lv_iconst (v := 4) hx hb dX9_share_94 (by decide) ?_
              refine lv_iload_n hx hb dX9_share_95 rfl (lv_at hl 1 rfl) ?_
              refine lv_imul hx hb dX9_share_96 ?_
              refine lv_iconst (v := 2) hx hb dX9_share_97 (by decide) ?_
              refine lv_iadd hx hb dX9_share_98 ?_
              refine lv_iload hx hb dX9_share_99 (lv_at hl 4 rfl) ?_
              obtain ⟨h_101, hf⟩ := og hf
              refine w_iast (N := 24) (f := (upM (upM (upM M_43 3 (Int32.toNatClampNeg x1) (1 : Int32)) 1 (Int32.toNatClampNeg ((4 : Int32) * x1)) x2) 1 (Int32.toNatClampNeg (((4 : Int32) * x1) + (1 : Int32))) x3) 1) (M' := (upM (upM (upM (upM M_43 3 (Int32.toNatClampNeg x1) (1 : Int32)) 1 (Int32.toNatClampNeg ((4 : Int32) * x1)) x2) 1 (Int32.toNatClampNeg (((4 : Int32) * x1) + (1 : Int32))) x3) 1 (Int32.toNatClampNeg (((4 : Int32) * x1) + (2 : Int32))) x4)) C hst 1 rfl (wM_set1 cI cZ a (upM (upM (upM M_43 3 (Int32.toNatClampNeg x1) (1 : Int32)) 1 (Int32.toNatClampNeg ((4 : Int32) * x1)) x2) 1 (Int32.toNatClampNeg (((4 : Int32) * x1) + (1 : Int32))) x3) (Int32.toNatClampNeg (((4 : Int32) * x1) + (2 : Int32))) x4) h_101 dX9_share_101 (fun H locs hst => ?_)
              refine lv_aload_n hx hb dX9_share_102 rfl (lv_at hl 0 rfl) ?_
              refine gf_X9_13 C hst dX9_share_103 ?_
              refine lv_iconst (v := 4) hx hb dX9_share_106 (by decide) ?_
              refine lv_iload_n hx hb dX9_share_107 rfl (lv_at hl 1 rfl) ?_
              refine lv_imul hx hb dX9_share_108 ?_
              refine lv_iconst (v := 3) hx hb dX9_share_109 (by decide) ?_
              refine lv_iadd hx hb dX9_share_110 ?_
              refine lv_iload hx hb dX9_share_111 (lv_at hl 5 rfl) ?_
              obtain ⟨h_113, hf⟩ := og hf
              refine w_iast (N := 24) (f := (upM (upM (upM (upM M_43 3 (Int32.toNatClampNeg x1) (1 : Int32)) 1 (Int32.toNatClampNeg ((4 : Int32) * x1)) x2) 1 (Int32.toNatClampNeg (((4 : Int32) * x1) + (1 : Int32))) x3) 1 (Int32.toNatClampNeg (((4 : Int32) * x1) + (2 : Int32))) x4) 1) (M' := (upM (upM (upM (upM (upM M_43 3 (Int32.toNatClampNeg x1) (1 : Int32)) 1 (Int32.toNatClampNeg ((4 : Int32) * x1)) x2) 1 (Int32.toNatClampNeg (((4 : Int32) * x1) + (1 : Int32))) x3) 1 (Int32.toNatClampNeg (((4 : Int32) * x1) + (2 : Int32))) x4) 1 (Int32.toNatClampNeg (((4 : Int32) * x1) + (3 : Int32))) x5)) C hst 1 rfl (wM_set1 cI cZ a (upM (upM (upM (upM M_43 3 (Int32.toNatClampNeg x1) (1 : Int32)) 1 (Int32.toNatClampNeg ((4 : Int32) * x1)) x2) 1 (Int32.toNatClampNeg (((4 : Int32) * x1) + (1 : Int32))) x3) 1 (Int32.toNatClampNeg (((4 : Int32) * x1) + (2 : Int32))) x4) (Int32.toNatClampNeg (((4 : Int32) * x1) + (3 : Int32))) x5) h_113 dX9_share_113 (fun H locs hst => ?_)
              refine lv_iconst (v := 1) hx hb dX9_share_114 (by decide) ?_
              obtain ⟨e1, e2⟩ := sinj hf
              subst e1
              subst e2
              exact w_zret C rfl hst dX9_share_115
            · have hf := ifp c_58 hf
              refine lv_iconst (v := 0) hx hb dX9_share_61 (by decide) ?_
              obtain ⟨e1, e2⟩ := sinj hf
              subst e1
              subst e2
              exact w_zret C rfl hst dX9_share_62
set_option maxRecDepth 100000 in
theorem mX9_share (l : Launch) (D : va_G) (cI cZ : ClassId) (a : Nat → Nat) (x1 x2 x3 x4 x5 : Int32) (M : Mem) (r : Int32) (M' : Mem) (hf : fX9_share x1 x2 x3 x4 x5 M = some (r, M')) : MI l D cI cZ (wM cI cZ a) yX9_share cX9_share 6 (some .boolean) 2 42 [.ref (a 0), .int x1, .int x2, .int x3, .int x4, .int x5] M r M' :=
  MI.of (by decide) (Nat.le_of_ble_eq_true rfl) (fun p e s m args below meth c A C hst ls hl => kX9_share_0 C x1 x2 x3 x4 x5 M s.heap [] ls hf hst hl)

def fX9_begin (x1 x2 : Int32) (M : Mem) : Res :=
  obi (fX9_isService x1 M) (fun r_1 M_1 => (if r_1 = 0 then some ((-1 : Int32), M_1) else obi (fX9_isIn x2 (1 : Int32) (999 : Int32) M_1) (fun r_12 M_12 => (if r_12 = 0 then some ((-1 : Int32), M_12) else (if (M_12 0 1) = (40 : Int32) then some ((-1 : Int32), M_12) else if (M_12 0 1) < 0 ∨ 40 ≤ Int32.toNatClampNeg (M_12 0 1) then none else if ((upM M_12 5 (Int32.toNatClampNeg (M_12 0 1)) x1) 0 1) < 0 ∨ 40 ≤ Int32.toNatClampNeg ((upM M_12 5 (Int32.toNatClampNeg (M_12 0 1)) x1) 0 1) then none else if ((upM (upM M_12 5 (Int32.toNatClampNeg (M_12 0 1)) x1) 6 (Int32.toNatClampNeg ((upM M_12 5 (Int32.toNatClampNeg (M_12 0 1)) x1) 0 1)) x2) 0 1) < 0 ∨ 40 ≤ Int32.toNatClampNeg ((upM (upM M_12 5 (Int32.toNatClampNeg (M_12 0 1)) x1) 6 (Int32.toNatClampNeg ((upM M_12 5 (Int32.toNatClampNeg (M_12 0 1)) x1) 0 1)) x2) 0 1) then none else if ((upM (upM (upM M_12 5 (Int32.toNatClampNeg (M_12 0 1)) x1) 6 (Int32.toNatClampNeg ((upM M_12 5 (Int32.toNatClampNeg (M_12 0 1)) x1) 0 1)) x2) 7 (Int32.toNatClampNeg ((upM (upM M_12 5 (Int32.toNatClampNeg (M_12 0 1)) x1) 6 (Int32.toNatClampNeg ((upM M_12 5 (Int32.toNatClampNeg (M_12 0 1)) x1) 0 1)) x2) 0 1)) ((upM (upM M_12 5 (Int32.toNatClampNeg (M_12 0 1)) x1) 6 (Int32.toNatClampNeg ((upM M_12 5 (Int32.toNatClampNeg (M_12 0 1)) x1) 0 1)) x2) 0 0)) 0 1) < 0 ∨ 40 ≤ Int32.toNatClampNeg ((upM (upM (upM M_12 5 (Int32.toNatClampNeg (M_12 0 1)) x1) 6 (Int32.toNatClampNeg ((upM M_12 5 (Int32.toNatClampNeg (M_12 0 1)) x1) 0 1)) x2) 7 (Int32.toNatClampNeg ((upM (upM M_12 5 (Int32.toNatClampNeg (M_12 0 1)) x1) 6 (Int32.toNatClampNeg ((upM M_12 5 (Int32.toNatClampNeg (M_12 0 1)) x1) 0 1)) x2) 0 1)) ((upM (upM M_12 5 (Int32.toNatClampNeg (M_12 0 1)) x1) 6 (Int32.toNatClampNeg ((upM M_12 5 (Int32.toNatClampNeg (M_12 0 1)) x1) 0 1)) x2) 0 0)) 0 1) then none else some ((((upM (upM (upM (upM (upM M_12 5 (Int32.toNatClampNeg (M_12 0 1)) x1) 6 (Int32.toNatClampNeg ((upM M_12 5 (Int32.toNatClampNeg (M_12 0 1)) x1) 0 1)) x2) 7 (Int32.toNatClampNeg ((upM (upM M_12 5 (Int32.toNatClampNeg (M_12 0 1)) x1) 6 (Int32.toNatClampNeg ((upM M_12 5 (Int32.toNatClampNeg (M_12 0 1)) x1) 0 1)) x2) 0 1)) ((upM (upM M_12 5 (Int32.toNatClampNeg (M_12 0 1)) x1) 6 (Int32.toNatClampNeg ((upM M_12 5 (Int32.toNatClampNeg (M_12 0 1)) x1) 0 1)) x2) 0 0)) 8 (Int32.toNatClampNeg ((upM (upM (upM M_12 5 (Int32.toNatClampNeg (M_12 0 1)) x1) 6 (Int32.toNatClampNeg ((upM M_12 5 (Int32.toNatClampNeg (M_12 0 1)) x1) 0 1)) x2) 7 (Int32.toNatClampNeg ((upM (upM M_12 5 (Int32.toNatClampNeg (M_12 0 1)) x1) 6 (Int32.toNatClampNeg ((upM M_12 5 (Int32.toNatClampNeg (M_12 0 1)) x1) 0 1)) x2) 0 1)) ((upM (upM M_12 5 (Int32.toNatClampNeg (M_12 0 1)) x1) 6 (Int32.toNatClampNeg ((upM M_12 5 (Int32.toNatClampNeg (M_12 0 1)) x1) 0 1)) x2) 0 0)) 0 1)) (-1 : Int32)) 0 1 (((upM (upM (upM (upM M_12 5 (Int32.toNatClampNeg (M_12 0 1)) x1) 6 (Int32.toNatClampNeg ((upM M_12 5 (Int32.toNatClampNeg (M_12 0 1)) x1) 0 1)) x2) 7 (Int32.toNatClampNeg ((upM (upM M_12 5 (Int32.toNatClampNeg (M_12 0 1)) x1) 6 (Int32.toNatClampNeg ((upM M_12 5 (Int32.toNatClampNeg (M_12 0 1)) x1) 0 1)) x2) 0 1)) ((upM (upM M_12 5 (Int32.toNatClampNeg (M_12 0 1)) x1) 6 (Int32.toNatClampNeg ((upM M_12 5 (Int32.toNatClampNeg (M_12 0 1)) x1) 0 1)) x2) 0 0)) 8 (Int32.toNatClampNeg ((upM (upM (upM M_12 5 (Int32.toNatClampNeg (M_12 0 1)) x1) 6 (Int32.toNatClampNeg ((upM M_12 5 (Int32.toNatClampNeg (M_12 0 1)) x1) 0 1)) x2) 7 (Int32.toNatClampNeg ((upM (upM M_12 5 (Int32.toNatClampNeg (M_12 0 1)) x1) 6 (Int32.toNatClampNeg ((upM M_12 5 (Int32.toNatClampNeg (M_12 0 1)) x1) 0 1)) x2) 0 1)) ((upM (upM M_12 5 (Int32.toNatClampNeg (M_12 0 1)) x1) 6 (Int32.toNatClampNeg ((upM M_12 5 (Int32.toNatClampNeg (M_12 0 1)) x1) 0 1)) x2) 0 0)) 0 1)) (-1 : Int32)) 0 1) + (1 : Int32))) 0 1) - (1 : Int32)), (upM (upM (upM (upM (upM M_12 5 (Int32.toNatClampNeg (M_12 0 1)) x1) 6 (Int32.toNatClampNeg ((upM M_12 5 (Int32.toNatClampNeg (M_12 0 1)) x1) 0 1)) x2) 7 (Int32.toNatClampNeg ((upM (upM M_12 5 (Int32.toNatClampNeg (M_12 0 1)) x1) 6 (Int32.toNatClampNeg ((upM M_12 5 (Int32.toNatClampNeg (M_12 0 1)) x1) 0 1)) x2) 0 1)) ((upM (upM M_12 5 (Int32.toNatClampNeg (M_12 0 1)) x1) 6 (Int32.toNatClampNeg ((upM M_12 5 (Int32.toNatClampNeg (M_12 0 1)) x1) 0 1)) x2) 0 0)) 8 (Int32.toNatClampNeg ((upM (upM (upM M_12 5 (Int32.toNatClampNeg (M_12 0 1)) x1) 6 (Int32.toNatClampNeg ((upM M_12 5 (Int32.toNatClampNeg (M_12 0 1)) x1) 0 1)) x2) 7 (Int32.toNatClampNeg ((upM (upM M_12 5 (Int32.toNatClampNeg (M_12 0 1)) x1) 6 (Int32.toNatClampNeg ((upM M_12 5 (Int32.toNatClampNeg (M_12 0 1)) x1) 0 1)) x2) 0 1)) ((upM (upM M_12 5 (Int32.toNatClampNeg (M_12 0 1)) x1) 6 (Int32.toNatClampNeg ((upM M_12 5 (Int32.toNatClampNeg (M_12 0 1)) x1) 0 1)) x2) 0 0)) 0 1)) (-1 : Int32)) 0 1 (((upM (upM (upM (upM M_12 5 (Int32.toNatClampNeg (M_12 0 1)) x1) 6 (Int32.toNatClampNeg ((upM M_12 5 (Int32.toNatClampNeg (M_12 0 1)) x1) 0 1)) x2) 7 (Int32.toNatClampNeg ((upM (upM M_12 5 (Int32.toNatClampNeg (M_12 0 1)) x1) 6 (Int32.toNatClampNeg ((upM M_12 5 (Int32.toNatClampNeg (M_12 0 1)) x1) 0 1)) x2) 0 1)) ((upM (upM M_12 5 (Int32.toNatClampNeg (M_12 0 1)) x1) 6 (Int32.toNatClampNeg ((upM M_12 5 (Int32.toNatClampNeg (M_12 0 1)) x1) 0 1)) x2) 0 0)) 8 (Int32.toNatClampNeg ((upM (upM (upM M_12 5 (Int32.toNatClampNeg (M_12 0 1)) x1) 6 (Int32.toNatClampNeg ((upM M_12 5 (Int32.toNatClampNeg (M_12 0 1)) x1) 0 1)) x2) 7 (Int32.toNatClampNeg ((upM (upM M_12 5 (Int32.toNatClampNeg (M_12 0 1)) x1) 6 (Int32.toNatClampNeg ((upM M_12 5 (Int32.toNatClampNeg (M_12 0 1)) x1) 0 1)) x2) 0 1)) ((upM (upM M_12 5 (Int32.toNatClampNeg (M_12 0 1)) x1) 6 (Int32.toNatClampNeg ((upM M_12 5 (Int32.toNatClampNeg (M_12 0 1)) x1) 0 1)) x2) 0 0)) 0 1)) (-1 : Int32)) 0 1) + (1 : Int32)))))))))
theorem calX9_begin : Cal yX9_begin cX9_begin 3 (some .int) 2 := ⟨(mU3 148 rfl rfl), (mU1 10 rfl rfl), by decide +kernel⟩
theorem cavX9_begin : CalV yX9_begin := ⟨(mU3 146 rfl rfl), (mU3 147 rfl rfl)⟩
set_option maxHeartbeats 4000000 in
set_option maxRecDepth 100000 in
theorem kX9_begin_0 {p : Program} {l : Launch} {e : Env} {s : State} {m : MethodId} {args : Array Value} {below : List Frame} {meth : Method} {c : Code} {D : va_G} {cI cZ : ClassId} {a : Nat → Nat} {A : Nat → Prop} {r : Int32} {M' : Mem} (C : Cx p s m args meth c cX9_begin 3 RX9 (some .int) D cI cZ A)  (x1 x2 : Int32) (M : Mem) (H : Heap) (locs : List Loc) (ls : Array Slot) (hf : fX9_begin x1 x2 M = some (r, M')) (hst : St D (wM cI cZ a) A s.heap H locs M) (hl : lv_has ls 3 [(0, .ref (a 0)), (1, .int x1), (2, .int x2)]) : Wi p l e { frames := 2, cells := 0, slots := 0, locals := 42 } s m args below meth c D (wM cI cZ a) A r M' H locs (F0 m 0 ls []) := by
  unfold fX9_begin at hf
  obtain ⟨hx, hb, hml, hown, hU, hr, hlk, hK, hA⟩ := id C
  refine lv_iload_n hx hb dX9_begin_0 rfl (lv_at hl 1 rfl) ?_
  obtain ⟨r_1, M_1, hc_1, hf⟩ := obi_some hf
  refine w_cSi (As := [.int x1]) (rest := []) C (wM_ad cI cZ a) (mX9_isService l D cI cZ a x1 M r_1 M_1 hc_1) calX9_isService casX9_isService (mU3 132 rfl rfl) hst hl.1 rfl rfl (Nat.le_of_ble_eq_true rfl) ⟨Nat.le_of_ble_eq_true rfl, Nat.le_of_ble_eq_true rfl⟩ dX9_begin_1 (fun H locs hst => ?_)
  refine lv_if_eq (tgt := 27) hx hb dX9_begin_4 (by decide) (fun c_4 => ?_) (fun c_4 => ?_)
  · have hf := ifp c_4 hf
    refine lv_iconst (v := -1) hx hb dX9_begin_27 (by decide) ?_
    obtain ⟨e1, e2⟩ := sinj hf
    subst e1
    subst e2
    exact w_iret C hst dX9_begin_28
  · have hf := ifn c_4 hf
    refine lv_iload_n hx hb dX9_begin_7 rfl (lv_at hl 2 rfl) ?_
    refine lv_iconst (v := 1) hx hb dX9_begin_8 (by decide) ?_
    refine lv_sipush (v := 999) hx hb dX9_begin_9 (by decide) ?_
    obtain ⟨r_12, M_12, hc_12, hf⟩ := obi_some hf
    refine w_cSi (As := [.int x2, .int (1 : Int32), .int (999 : Int32)]) (rest := []) C (wM_ad cI cZ a) (mX9_isIn l D cI cZ a x2 (1 : Int32) (999 : Int32) M_1 r_12 M_12 hc_12) calX9_isIn casX9_isIn (mU3 135 rfl rfl) hst hl.1 rfl rfl (Nat.le_of_ble_eq_true rfl) ⟨Nat.le_of_ble_eq_true rfl, Nat.le_of_ble_eq_true rfl⟩ dX9_begin_12 (fun H locs hst => ?_)
    refine lv_if_eq (tgt := 27) hx hb dX9_begin_15 (by decide) (fun c_15 => ?_) (fun c_15 => ?_)
    · have hf := ifp c_15 hf
      refine lv_iconst (v := -1) hx hb dX9_begin_27 (by decide) ?_
      obtain ⟨e1, e2⟩ := sinj hf
      subst e1
      subst e2
      exact w_iret C hst dX9_begin_28
    · have hf := ifn c_15 hf
      refine lv_aload_n hx hb dX9_begin_18 rfl (lv_at hl 0 rfl) ?_
      refine gf_X9_80 C hst dX9_begin_19 ?_
      refine lv_bipush (v := 40) hx hb dX9_begin_22 (by decide) ?_
      refine lv_icmp_ne (tgt := 29) hx hb dX9_begin_24 (by decide) (fun c_24 => ?_) (fun c_24 => ?_)
      · have hf := ifn c_24 hf
        refine lv_aload_n hx hb dX9_begin_29 rfl (lv_at hl 0 rfl) ?_
        refine gf_X9_27 C hst dX9_begin_30 ?_
        refine lv_aload_n hx hb dX9_begin_33 rfl (lv_at hl 0 rfl) ?_
        refine gf_X9_80 C hst dX9_begin_34 ?_
        refine lv_iload_n hx hb dX9_begin_37 rfl (lv_at hl 1 rfl) ?_
        obtain ⟨h_38, hf⟩ := og hf
        refine w_iast (N := 40) (f := M_12 5) (M' := (upM M_12 5 (Int32.toNatClampNeg (M_12 0 1)) x1)) C hst 5 rfl (wM_set5 cI cZ a M_12 (Int32.toNatClampNeg (M_12 0 1)) x1) h_38 dX9_begin_38 (fun H locs hst => ?_)
        refine lv_aload_n hx hb dX9_begin_39 rfl (lv_at hl 0 rfl) ?_
        refine gf_X9_30 C hst dX9_begin_40 ?_
        refine lv_aload_n hx hb dX9_begin_43 rfl (lv_at hl 0 rfl) ?_
        refine gf_X9_80 C hst dX9_begin_44 ?_
        refine lv_iload_n hx hb dX9_begin_47 rfl (lv_at hl 2 rfl) ?_
        obtain ⟨h_48, hf⟩ := og hf
        refine w_iast (N := 40) (f := (upM M_12 5 (Int32.toNatClampNeg (M_12 0 1)) x1) 6) (M' := (upM (upM M_12 5 (Int32.toNatClampNeg (M_12 0 1)) x1) 6 (Int32.toNatClampNeg ((upM M_12 5 (Int32.toNatClampNeg (M_12 0 1)) x1) 0 1)) x2)) C hst 6 rfl (wM_set6 cI cZ a (upM M_12 5 (Int32.toNatClampNeg (M_12 0 1)) x1) (Int32.toNatClampNeg ((upM M_12 5 (Int32.toNatClampNeg (M_12 0 1)) x1) 0 1)) x2) h_48 dX9_begin_48 (fun H locs hst => ?_)
        refine lv_aload_n hx hb dX9_begin_49 rfl (lv_at hl 0 rfl) ?_
        refine gf_X9_33 C hst dX9_begin_50 ?_
        refine lv_aload_n hx hb dX9_begin_53 rfl (lv_at hl 0 rfl) ?_
        refine gf_X9_80 C hst dX9_begin_54 ?_
        refine lv_aload_n hx hb dX9_begin_57 rfl (lv_at hl 0 rfl) ?_
        refine gf_X9_83 C hst dX9_begin_58 ?_
        obtain ⟨h_61, hf⟩ := og hf
        refine w_iast (N := 40) (f := (upM (upM M_12 5 (Int32.toNatClampNeg (M_12 0 1)) x1) 6 (Int32.toNatClampNeg ((upM M_12 5 (Int32.toNatClampNeg (M_12 0 1)) x1) 0 1)) x2) 7) (M' := (upM (upM (upM M_12 5 (Int32.toNatClampNeg (M_12 0 1)) x1) 6 (Int32.toNatClampNeg ((upM M_12 5 (Int32.toNatClampNeg (M_12 0 1)) x1) 0 1)) x2) 7 (Int32.toNatClampNeg ((upM (upM M_12 5 (Int32.toNatClampNeg (M_12 0 1)) x1) 6 (Int32.toNatClampNeg ((upM M_12 5 (Int32.toNatClampNeg (M_12 0 1)) x1) 0 1)) x2) 0 1)) ((upM (upM M_12 5 (Int32.toNatClampNeg (M_12 0 1)) x1) 6 (Int32.toNatClampNeg ((upM M_12 5 (Int32.toNatClampNeg (M_12 0 1)) x1) 0 1)) x2) 0 0))) C hst 7 rfl (wM_set7 cI cZ a (upM (upM M_12 5 (Int32.toNatClampNeg (M_12 0 1)) x1) 6 (Int32.toNatClampNeg ((upM M_12 5 (Int32.toNatClampNeg (M_12 0 1)) x1) 0 1)) x2) (Int32.toNatClampNeg ((upM (upM M_12 5 (Int32.toNatClampNeg (M_12 0 1)) x1) 6 (Int32.toNatClampNeg ((upM M_12 5 (Int32.toNatClampNeg (M_12 0 1)) x1) 0 1)) x2) 0 1)) ((upM (upM M_12 5 (Int32.toNatClampNeg (M_12 0 1)) x1) 6 (Int32.toNatClampNeg ((upM M_12 5 (Int32.toNatClampNeg (M_12 0 1)) x1) 0 1)) x2) 0 0)) h_61 dX9_begin_61 (fun H locs hst => ?_)
        refine lv_aload_n hx hb dX9_begin_62 rfl (lv_at hl 0 rfl) ?_
        refine gf_X9_36 C hst dX9_begin_63 ?_
        refine lv_aload_n hx hb dX9_begin_66 rfl (lv_at hl 0 rfl) ?_
        refine gf_X9_80 C hst dX9_begin_67 ?_
        refine lv_iconst (v := -1) hx hb dX9_begin_70 (by decide) ?_
        obtain ⟨h_71, hf⟩ := og hf
        refine w_iast (N := 40) (f := (upM (upM (upM M_12 5 (Int32.toNatClampNeg (M_12 0 1)) x1) 6 (Int32.toNatClampNeg ((upM M_12 5 (Int32.toNatClampNeg (M_12 0 1)) x1) 0 1)) x2) 7 (Int32.toNatClampNeg ((upM (upM M_12 5 (Int32.toNatClampNeg (M_12 0 1)) x1) 6 (Int32.toNatClampNeg ((upM M_12 5 (Int32.toNatClampNeg (M_12 0 1)) x1) 0 1)) x2) 0 1)) ((upM (upM M_12 5 (Int32.toNatClampNeg (M_12 0 1)) x1) 6 (Int32.toNatClampNeg ((upM M_12 5 (Int32.toNatClampNeg (M_12 0 1)) x1) 0 1)) x2) 0 0)) 8) (M' := (upM (upM (upM (upM M_12 5 (Int32.toNatClampNeg (M_12 0 1)) x1) 6 (Int32.toNatClampNeg ((upM M_12 5 (Int32.toNatClampNeg (M_12 0 1)) x1) 0 1)) x2) 7 (Int32.toNatClampNeg ((upM (upM M_12 5 (Int32.toNatClampNeg (M_12 0 1)) x1) 6 (Int32.toNatClampNeg ((upM M_12 5 (Int32.toNatClampNeg (M_12 0 1)) x1) 0 1)) x2) 0 1)) ((upM (upM M_12 5 (Int32.toNatClampNeg (M_12 0 1)) x1) 6 (Int32.toNatClampNeg ((upM M_12 5 (Int32.toNatClampNeg (M_12 0 1)) x1) 0 1)) x2) 0 0)) 8 (Int32.toNatClampNeg ((upM (upM (upM M_12 5 (Int32.toNatClampNeg (M_12 0 1)) x1) 6 (Int32.toNatClampNeg ((upM M_12 5 (Int32.toNatClampNeg (M_12 0 1)) x1) 0 1)) x2) 7 (Int32.toNatClampNeg ((upM (upM M_12 5 (Int32.toNatClampNeg (M_12 0 1)) x1) 6 (Int32.toNatClampNeg ((upM M_12 5 (Int32.toNatClampNeg (M_12 0 1)) x1) 0 1)) x2) 0 1)) ((upM (upM M_12 5 (Int32.toNatClampNeg (M_12 0 1)) x1) 6 (Int32.toNatClampNeg ((upM M_12 5 (Int32.toNatClampNeg (M_12 0 1)) x1) 0 1)) x2) 0 0)) 0 1)) (-1 : Int32))) C hst 8 rfl (wM_set8 cI cZ a (upM (upM (upM M_12 5 (Int32.toNatClampNeg (M_12 0 1)) x1) 6 (Int32.toNatClampNeg ((upM M_12 5 (Int32.toNatClampNeg (M_12 0 1)) x1) 0 1)) x2) 7 (Int32.toNatClampNeg ((upM (upM M_12 5 (Int32.toNatClampNeg (M_12 0 1)) x1) 6 (Int32.toNatClampNeg ((upM M_12 5 (Int32.toNatClampNeg (M_12 0 1)) x1) 0 1)) x2) 0 1)) ((upM (upM M_12 5 (Int32.toNatClampNeg (M_12 0 1)) x1) 6 (Int32.toNatClampNeg ((upM M_12 5 (Int32.toNatClampNeg (M_12 0 1)) x1) 0 1)) x2) 0 0)) (Int32.toNatClampNeg ((upM (upM (upM M_12 5 (Int32.toNatClampNeg (M_12 0 1)) x1) 6 (Int32.toNatClampNeg ((upM M_12 5 (Int32.toNatClampNeg (M_12 0 1)) x1) 0 1)) x2) 7 (Int32.toNatClampNeg ((upM (upM M_12 5 (Int32.toNatClampNeg (M_12 0 1)) x1) 6 (Int32.toNatClampNeg ((upM M_12 5 (Int32.toNatClampNeg (M_12 0 1)) x1) 0 1)) x2) 0 1)) ((upM (upM M_12 5 (Int32.toNatClampNeg (M_12 0 1)) x1) 6 (Int32.toNatClampNeg ((upM M_12 5 (Int32.toNatClampNeg (M_12 0 1)) x1) 0 1)) x2) 0 0)) 0 1)) (-1 : Int32)) h_71 dX9_begin_71 (fun H locs hst => ?_)
        refine lv_aload_n hx hb dX9_begin_72 rfl (lv_at hl 0 rfl) ?_
        refine lv_dup hx hb dX9_begin_73 rfl ?_
        refine gf_X9_80 C hst dX9_begin_74 ?_
        refine lv_iconst (v := 1) hx hb dX9_begin_77 (by decide) ?_
        refine lv_iadd hx hb dX9_begin_78 ?_
        refine pf_X9_80 C hst dX9_begin_79 (fun H locs hst => ?_)
        refine lv_aload_n hx hb dX9_begin_82 rfl (lv_at hl 0 rfl) ?_
        refine gf_X9_80 C hst dX9_begin_83 ?_
        refine lv_iconst (v := 1) hx hb dX9_begin_86 (by decide) ?_
        refine lv_isub hx hb dX9_begin_87 ?_
        obtain ⟨e1, e2⟩ := sinj hf
        subst e1
        subst e2
        exact w_iret C hst dX9_begin_88
      · have hf := ifp c_24 hf
        refine lv_iconst (v := -1) hx hb dX9_begin_27 (by decide) ?_
        obtain ⟨e1, e2⟩ := sinj hf
        subst e1
        subst e2
        exact w_iret C hst dX9_begin_28
set_option maxRecDepth 100000 in
theorem mX9_begin (l : Launch) (D : va_G) (cI cZ : ClassId) (a : Nat → Nat) (x1 x2 : Int32) (M : Mem) (r : Int32) (M' : Mem) (hf : fX9_begin x1 x2 M = some (r, M')) : MI l D cI cZ (wM cI cZ a) yX9_begin cX9_begin 3 (some .int) 2 42 [.ref (a 0), .int x1, .int x2] M r M' :=
  MI.of (by decide) (Nat.le_of_ble_eq_true rfl) (fun p e s m args below meth c A C hst ls hl => kX9_begin_0 C x1 x2 M s.heap [] ls hf hst hl)

def fX9_isMachine (x1 : Int32) (M : Mem) : Res :=
  obi (fX9_isIn x1 (0 : Int32) ((M 0 1) - (1 : Int32)) M) (fun r_8 M_8 => if ¬ (r_8 = 0 ∨ r_8 = 1) then none else some (r_8, M_8))
theorem calX9_isMachine : Cal yX9_isMachine cX9_isMachine 2 (some .boolean) 1 := ⟨(mU3 156 rfl rfl), (mU1 10 rfl rfl), by decide +kernel⟩
theorem cavX9_isMachine : CalV yX9_isMachine := ⟨(mU3 155 rfl rfl), (mS1 11 rfl)⟩
set_option maxHeartbeats 4000000 in
set_option maxRecDepth 100000 in
theorem kX9_isMachine_0 {p : Program} {l : Launch} {e : Env} {s : State} {m : MethodId} {args : Array Value} {below : List Frame} {meth : Method} {c : Code} {D : va_G} {cI cZ : ClassId} {a : Nat → Nat} {A : Nat → Prop} {r : Int32} {M' : Mem} (C : Cx p s m args meth c cX9_isMachine 2 RX9 (some .boolean) D cI cZ A)  (x1 : Int32) (M : Mem) (H : Heap) (locs : List Loc) (ls : Array Slot) (hf : fX9_isMachine x1 M = some (r, M')) (hst : St D (wM cI cZ a) A s.heap H locs M) (hl : lv_has ls 2 [(0, .ref (a 0)), (1, .int x1)]) : Wi p l e { frames := 1, cells := 0, slots := 0, locals := 22 } s m args below meth c D (wM cI cZ a) A r M' H locs (F0 m 0 ls []) := by
  unfold fX9_isMachine at hf
  obtain ⟨hx, hb, hml, hown, hU, hr, hlk, hK, hA⟩ := id C
  refine lv_iload_n hx hb dX9_isMachine_0 rfl (lv_at hl 1 rfl) ?_
  refine lv_iconst (v := 0) hx hb dX9_isMachine_1 (by decide) ?_
  refine lv_aload_n hx hb dX9_isMachine_2 rfl (lv_at hl 0 rfl) ?_
  refine gf_X9_80 C hst dX9_isMachine_3 ?_
  refine lv_iconst (v := 1) hx hb dX9_isMachine_6 (by decide) ?_
  refine lv_isub hx hb dX9_isMachine_7 ?_
  obtain ⟨r_8, M_8, hc_8, hf⟩ := obi_some hf
  refine w_cSi (As := [.int x1, .int (0 : Int32), .int ((M 0 1) - (1 : Int32))]) (rest := []) C (wM_ad cI cZ a) (mX9_isIn l D cI cZ a x1 (0 : Int32) ((M 0 1) - (1 : Int32)) M r_8 M_8 hc_8) calX9_isIn casX9_isIn (mU3 135 rfl rfl) hst hl.1 rfl rfl (Nat.le_of_ble_eq_true rfl) ⟨Nat.le_of_ble_eq_true rfl, Nat.le_of_ble_eq_true rfl⟩ dX9_isMachine_8 (fun H locs hst => ?_)
  obtain ⟨h_11, hf⟩ := og hf
  obtain ⟨e1, e2⟩ := sinj hf
  subst e1
  subst e2
  exact w_zret C (ng h_11) hst dX9_isMachine_11
set_option maxRecDepth 100000 in
theorem mX9_isMachine (l : Launch) (D : va_G) (cI cZ : ClassId) (a : Nat → Nat) (x1 : Int32) (M : Mem) (r : Int32) (M' : Mem) (hf : fX9_isMachine x1 M = some (r, M')) : MI l D cI cZ (wM cI cZ a) yX9_isMachine cX9_isMachine 2 (some .boolean) 1 22 [.ref (a 0), .int x1] M r M' :=
  MI.of (by decide) (Nat.le_of_ble_eq_true rfl) (fun p e s m args below meth c A C hst ls hl => kX9_isMachine_0 C x1 M s.heap [] ls hf hst hl)

def fX9_stop (x1 : Int32) (M : Mem) : Res :=
  obi (fX9_isMachine x1 M) (fun r_2 M_2 => (if r_2 = 0 then some ((0 : Int32), M_2) else if x1 < 0 ∨ 40 ≤ Int32.toNatClampNeg x1 then none else (if (M_2 8 (Int32.toNatClampNeg x1)) = (-1 : Int32) then some ((1 : Int32), (upM M_2 8 (Int32.toNatClampNeg x1) (M_2 0 0))) else some ((0 : Int32), M_2))))
theorem calX9_stop : Cal yX9_stop cX9_stop 2 (some .boolean) 1 := ⟨(mU3 152 rfl rfl), (mU1 10 rfl rfl), by decide +kernel⟩
theorem cavX9_stop : CalV yX9_stop := ⟨(mU3 150 rfl rfl), (mU3 151 rfl rfl)⟩
set_option maxHeartbeats 4000000 in
set_option maxRecDepth 100000 in
theorem kX9_stop_0 {p : Program} {l : Launch} {e : Env} {s : State} {m : MethodId} {args : Array Value} {below : List Frame} {meth : Method} {c : Code} {D : va_G} {cI cZ : ClassId} {a : Nat → Nat} {A : Nat → Prop} {r : Int32} {M' : Mem} (C : Cx p s m args meth c cX9_stop 2 RX9 (some .boolean) D cI cZ A)  (x1 : Int32) (M : Mem) (H : Heap) (locs : List Loc) (ls : Array Slot) (hf : fX9_stop x1 M = some (r, M')) (hst : St D (wM cI cZ a) A s.heap H locs M) (hl : lv_has ls 2 [(0, .ref (a 0)), (1, .int x1)]) : Wi p l e { frames := 2, cells := 0, slots := 0, locals := 43 } s m args below meth c D (wM cI cZ a) A r M' H locs (F0 m 0 ls []) := by
  unfold fX9_stop at hf
  obtain ⟨hx, hb, hml, hown, hU, hr, hlk, hK, hA⟩ := id C
  refine lv_aload_n hx hb dX9_stop_0 rfl (lv_at hl 0 rfl) ?_
  refine lv_iload_n hx hb dX9_stop_1 rfl (lv_at hl 1 rfl) ?_
  obtain ⟨r_2, M_2, hc_2, hf⟩ := obi_some hf
  refine w_cVi (As := [.int x1]) (rest := []) C (wM_ad cI cZ a) (mX9_isMachine l D cI cZ a x1 M r_2 M_2 hc_2) calX9_isMachine cavX9_isMachine (mU3 153 rfl rfl) hst hl.1 0 9 rfl rfl rfl rfl (Nat.le_of_ble_eq_true rfl) ⟨Nat.le_of_ble_eq_true rfl, Nat.le_of_ble_eq_true rfl⟩ dX9_stop_2 (fun H locs hst => ?_)
  refine lv_if_eq (tgt := 18) hx hb dX9_stop_5 (by decide) (fun c_5 => ?_) (fun c_5 => ?_)
  · have hf := ifp c_5 hf
    refine lv_iconst (v := 0) hx hb dX9_stop_18 (by decide) ?_
    obtain ⟨e1, e2⟩ := sinj hf
    subst e1
    subst e2
    exact w_zret C rfl hst dX9_stop_19
  · have hf := ifn c_5 hf
    refine lv_aload_n hx hb dX9_stop_8 rfl (lv_at hl 0 rfl) ?_
    refine gf_X9_36 C hst dX9_stop_9 ?_
    refine lv_iload_n hx hb dX9_stop_12 rfl (lv_at hl 1 rfl) ?_
    obtain ⟨h_13, hf⟩ := og hf
    refine w_iald (N := 40) (f := M_2 8) C hst 8 rfl h_13 dX9_stop_13 ?_
    refine lv_iconst (v := -1) hx hb dX9_stop_14 (by decide) ?_
    refine lv_icmp_eq (tgt := 20) hx hb dX9_stop_15 (by decide) (fun c_15 => ?_) (fun c_15 => ?_)
    · have hf := ifp c_15 hf
      refine lv_aload_n hx hb dX9_stop_20 rfl (lv_at hl 0 rfl) ?_
      refine gf_X9_36 C hst dX9_stop_21 ?_
      refine lv_iload_n hx hb dX9_stop_24 rfl (lv_at hl 1 rfl) ?_
      refine lv_aload_n hx hb dX9_stop_25 rfl (lv_at hl 0 rfl) ?_
      refine gf_X9_83 C hst dX9_stop_26 ?_
      refine w_iast (N := 40) (f := M_2 8) (M' := (upM M_2 8 (Int32.toNatClampNeg x1) (M_2 0 0))) C hst 8 rfl (wM_set8 cI cZ a M_2 (Int32.toNatClampNeg x1) (M_2 0 0)) h_13 dX9_stop_29 (fun H locs hst => ?_)
      refine lv_iconst (v := 1) hx hb dX9_stop_30 (by decide) ?_
      obtain ⟨e1, e2⟩ := sinj hf
      subst e1
      subst e2
      exact w_zret C rfl hst dX9_stop_31
    · have hf := ifn c_15 hf
      refine lv_iconst (v := 0) hx hb dX9_stop_18 (by decide) ?_
      obtain ⟨e1, e2⟩ := sinj hf
      subst e1
      subst e2
      exact w_zret C rfl hst dX9_stop_19
set_option maxRecDepth 100000 in
theorem mX9_stop (l : Launch) (D : va_G) (cI cZ : ClassId) (a : Nat → Nat) (x1 : Int32) (M : Mem) (r : Int32) (M' : Mem) (hf : fX9_stop x1 M = some (r, M')) : MI l D cI cZ (wM cI cZ a) yX9_stop cX9_stop 2 (some .boolean) 2 43 [.ref (a 0), .int x1] M r M' :=
  MI.of (by decide) (Nat.le_of_ble_eq_true rfl) (fun p e s m args below meth c A C hst ls hl => kX9_stop_0 C x1 M s.heap [] ls hf hst hl)

def fX9_use (x1 x2 : Int32) (M : Mem) : Res :=
  obi (fX9_isService x1 M) (fun r_1 M_1 => (if r_1 = 0 then some ((0 : Int32), M_1) else obi (fX9_isIn x2 (0 : Int32) (9999 : Int32) M_1) (fun r_12 M_12 => (if r_12 = 0 then some ((0 : Int32), M_12) else if (((2000 : Int32) * x1) + (M_12 0 0)) < 0 ∨ 12000 ≤ Int32.toNatClampNeg (((2000 : Int32) * x1) + (M_12 0 0)) then none else (if ((M_12 2 (Int32.toNatClampNeg (((2000 : Int32) * x1) + (M_12 0 0)))) + x2) ≤ (99999 : Int32) then some ((1 : Int32), (upM M_12 2 (Int32.toNatClampNeg (((2000 : Int32) * x1) + (M_12 0 0))) ((M_12 2 (Int32.toNatClampNeg (((2000 : Int32) * x1) + (M_12 0 0)))) + x2))) else some ((0 : Int32), M_12))))))
theorem calX9_use : Cal yX9_use cX9_use 3 (some .boolean) 2 := ⟨(mU3 160 rfl rfl), (mU1 10 rfl rfl), by decide +kernel⟩
theorem cavX9_use : CalV yX9_use := ⟨(mU3 158 rfl rfl), (mU3 159 rfl rfl)⟩
set_option maxHeartbeats 4000000 in
set_option maxRecDepth 100000 in
theorem kX9_use_0 {p : Program} {l : Launch} {e : Env} {s : State} {m : MethodId} {args : Array Value} {below : List Frame} {meth : Method} {c : Code} {D : va_G} {cI cZ : ClassId} {a : Nat → Nat} {A : Nat → Prop} {r : Int32} {M' : Mem} (C : Cx p s m args meth c cX9_use 3 RX9 (some .boolean) D cI cZ A)  (x1 x2 : Int32) (M : Mem) (H : Heap) (locs : List Loc) (ls : Array Slot) (hf : fX9_use x1 x2 M = some (r, M')) (hst : St D (wM cI cZ a) A s.heap H locs M) (hl : lv_has ls 3 [(0, .ref (a 0)), (1, .int x1), (2, .int x2)]) : Wi p l e { frames := 2, cells := 0, slots := 0, locals := 42 } s m args below meth c D (wM cI cZ a) A r M' H locs (F0 m 0 ls []) := by
  unfold fX9_use at hf
  obtain ⟨hx, hb, hml, hown, hU, hr, hlk, hK, hA⟩ := id C
  refine lv_iload_n hx hb dX9_use_0 rfl (lv_at hl 1 rfl) ?_
  obtain ⟨r_1, M_1, hc_1, hf⟩ := obi_some hf
  refine w_cSi (As := [.int x1]) (rest := []) C (wM_ad cI cZ a) (mX9_isService l D cI cZ a x1 M r_1 M_1 hc_1) calX9_isService casX9_isService (mU3 132 rfl rfl) hst hl.1 rfl rfl (Nat.le_of_ble_eq_true rfl) ⟨Nat.le_of_ble_eq_true rfl, Nat.le_of_ble_eq_true rfl⟩ dX9_use_1 (fun H locs hst => ?_)
  refine lv_if_eq (tgt := 40) hx hb dX9_use_4 (by decide) (fun c_4 => ?_) (fun c_4 => ?_)
  · have hf := ifp c_4 hf
    refine lv_iconst (v := 0) hx hb dX9_use_40 (by decide) ?_
    obtain ⟨e1, e2⟩ := sinj hf
    subst e1
    subst e2
    exact w_zret C rfl hst dX9_use_41
  · have hf := ifn c_4 hf
    refine lv_iload_n hx hb dX9_use_7 rfl (lv_at hl 2 rfl) ?_
    refine lv_iconst (v := 0) hx hb dX9_use_8 (by decide) ?_
    refine lv_sipush (v := 9999) hx hb dX9_use_9 (by decide) ?_
    obtain ⟨r_12, M_12, hc_12, hf⟩ := obi_some hf
    refine w_cSi (As := [.int x2, .int (0 : Int32), .int (9999 : Int32)]) (rest := []) C (wM_ad cI cZ a) (mX9_isIn l D cI cZ a x2 (0 : Int32) (9999 : Int32) M_1 r_12 M_12 hc_12) calX9_isIn casX9_isIn (mU3 135 rfl rfl) hst hl.1 rfl rfl (Nat.le_of_ble_eq_true rfl) ⟨Nat.le_of_ble_eq_true rfl, Nat.le_of_ble_eq_true rfl⟩ dX9_use_12 (fun H locs hst => ?_)
    refine lv_if_eq (tgt := 40) hx hb dX9_use_15 (by decide) (fun c_15 => ?_) (fun c_15 => ?_)
    · have hf := ifp c_15 hf
      refine lv_iconst (v := 0) hx hb dX9_use_40 (by decide) ?_
      obtain ⟨e1, e2⟩ := sinj hf
      subst e1
      subst e2
      exact w_zret C rfl hst dX9_use_41
    · have hf := ifn c_15 hf
      refine lv_aload_n hx hb dX9_use_18 rfl (lv_at hl 0 rfl) ?_
      refine gf_X9_17 C hst dX9_use_19 ?_
      refine lv_sipush (v := 2000) hx hb dX9_use_22 (by decide) ?_
      refine lv_iload_n hx hb dX9_use_25 rfl (lv_at hl 1 rfl) ?_
      refine lv_imul hx hb dX9_use_26 ?_
      refine lv_aload_n hx hb dX9_use_27 rfl (lv_at hl 0 rfl) ?_
      refine gf_X9_83 C hst dX9_use_28 ?_
      refine lv_iadd hx hb dX9_use_31 ?_
      obtain ⟨h_32, hf⟩ := og hf
      refine w_iald (N := 12000) (f := M_12 2) C hst 2 rfl h_32 dX9_use_32 ?_
      refine lv_iload_n hx hb dX9_use_33 rfl (lv_at hl 2 rfl) ?_
      refine lv_iadd hx hb dX9_use_34 ?_
      refine lv_ldc (v := 99999) hx hb hown (hU (.constant RX9 89 99999) (mU3 161 rfl rfl)) dX9_use_35 ?_
      refine lv_icmp_le (tgt := 42) hx hb dX9_use_37 (by decide) (fun c_37 => ?_) (fun c_37 => ?_)
      · have hf := ifp c_37 hf
        refine lv_aload_n hx hb dX9_use_42 rfl (lv_at hl 0 rfl) ?_
        refine gf_X9_17 C hst dX9_use_43 ?_
        refine lv_sipush (v := 2000) hx hb dX9_use_46 (by decide) ?_
        refine lv_iload_n hx hb dX9_use_49 rfl (lv_at hl 1 rfl) ?_
        refine lv_imul hx hb dX9_use_50 ?_
        refine lv_aload_n hx hb dX9_use_51 rfl (lv_at hl 0 rfl) ?_
        refine gf_X9_83 C hst dX9_use_52 ?_
        refine lv_iadd hx hb dX9_use_55 ?_
        refine lv_dup2_11 hx hb dX9_use_56 rfl rfl ?_
        refine w_iald (N := 12000) (f := M_12 2) C hst 2 rfl h_32 dX9_use_57 ?_
        refine lv_iload_n hx hb dX9_use_58 rfl (lv_at hl 2 rfl) ?_
        refine lv_iadd hx hb dX9_use_59 ?_
        refine w_iast (N := 12000) (f := M_12 2) (M' := (upM M_12 2 (Int32.toNatClampNeg (((2000 : Int32) * x1) + (M_12 0 0))) ((M_12 2 (Int32.toNatClampNeg (((2000 : Int32) * x1) + (M_12 0 0)))) + x2))) C hst 2 rfl (wM_set2 cI cZ a M_12 (Int32.toNatClampNeg (((2000 : Int32) * x1) + (M_12 0 0))) ((M_12 2 (Int32.toNatClampNeg (((2000 : Int32) * x1) + (M_12 0 0)))) + x2)) h_32 dX9_use_60 (fun H locs hst => ?_)
        refine lv_iconst (v := 1) hx hb dX9_use_61 (by decide) ?_
        obtain ⟨e1, e2⟩ := sinj hf
        subst e1
        subst e2
        exact w_zret C rfl hst dX9_use_62
      · have hf := ifn c_37 hf
        refine lv_iconst (v := 0) hx hb dX9_use_40 (by decide) ?_
        obtain ⟨e1, e2⟩ := sinj hf
        subst e1
        subst e2
        exact w_zret C rfl hst dX9_use_41
set_option maxRecDepth 100000 in
theorem mX9_use (l : Launch) (D : va_G) (cI cZ : ClassId) (a : Nat → Nat) (x1 x2 : Int32) (M : Mem) (r : Int32) (M' : Mem) (hf : fX9_use x1 x2 M = some (r, M')) : MI l D cI cZ (wM cI cZ a) yX9_use cX9_use 3 (some .boolean) 2 42 [.ref (a 0), .int x1, .int x2] M r M' :=
  MI.of (by decide) (Nat.le_of_ble_eq_true rfl) (fun p e s m args below meth c A C hst ls hl => kX9_use_0 C x1 x2 M s.heap [] ls hf hst hl)

def fX9_floor (x1 : Int32) (M : Mem) : Res :=
  obi (fX9_isIn x1 (0 : Int32) (9999 : Int32) M) (fun r_5 M_5 => (if r_5 = 0 then some ((0 : Int32), M_5) else some ((1 : Int32), (upM M_5 0 3 x1))))
theorem calX9_floor : Cal yX9_floor cX9_floor 2 (some .boolean) 1 := ⟨(mU3 165 rfl rfl), (mU1 10 rfl rfl), by decide +kernel⟩
theorem cavX9_floor : CalV yX9_floor := ⟨(mU3 163 rfl rfl), (mU3 164 rfl rfl)⟩
set_option maxHeartbeats 4000000 in
set_option maxRecDepth 100000 in
theorem kX9_floor_0 {p : Program} {l : Launch} {e : Env} {s : State} {m : MethodId} {args : Array Value} {below : List Frame} {meth : Method} {c : Code} {D : va_G} {cI cZ : ClassId} {a : Nat → Nat} {A : Nat → Prop} {r : Int32} {M' : Mem} (C : Cx p s m args meth c cX9_floor 2 RX9 (some .boolean) D cI cZ A)  (x1 : Int32) (M : Mem) (H : Heap) (locs : List Loc) (ls : Array Slot) (hf : fX9_floor x1 M = some (r, M')) (hst : St D (wM cI cZ a) A s.heap H locs M) (hl : lv_has ls 2 [(0, .ref (a 0)), (1, .int x1)]) : Wi p l e { frames := 1, cells := 0, slots := 0, locals := 22 } s m args below meth c D (wM cI cZ a) A r M' H locs (F0 m 0 ls []) := by
  unfold fX9_floor at hf
  obtain ⟨hx, hb, hml, hown, hU, hr, hlk, hK, hA⟩ := id C
  refine lv_iload_n hx hb dX9_floor_0 rfl (lv_at hl 1 rfl) ?_
  refine lv_iconst (v := 0) hx hb dX9_floor_1 (by decide) ?_
  refine lv_sipush (v := 9999) hx hb dX9_floor_2 (by decide) ?_
  obtain ⟨r_5, M_5, hc_5, hf⟩ := obi_some hf
  refine w_cSi (As := [.int x1, .int (0 : Int32), .int (9999 : Int32)]) (rest := []) C (wM_ad cI cZ a) (mX9_isIn l D cI cZ a x1 (0 : Int32) (9999 : Int32) M r_5 M_5 hc_5) calX9_isIn casX9_isIn (mU3 135 rfl rfl) hst hl.1 rfl rfl (Nat.le_of_ble_eq_true rfl) ⟨Nat.le_of_ble_eq_true rfl, Nat.le_of_ble_eq_true rfl⟩ dX9_floor_5 (fun H locs hst => ?_)
  refine lv_if_ne (tgt := 13) hx hb dX9_floor_8 (by decide) (fun c_8 => ?_) (fun c_8 => ?_)
  · have hf := ifn c_8 hf
    refine lv_aload_n hx hb dX9_floor_13 rfl (lv_at hl 0 rfl) ?_
    refine lv_iload_n hx hb dX9_floor_14 rfl (lv_at hl 1 rfl) ?_
    refine pf_X9_7 C hst dX9_floor_15 (fun H locs hst => ?_)
    refine lv_iconst (v := 1) hx hb dX9_floor_18 (by decide) ?_
    obtain ⟨e1, e2⟩ := sinj hf
    subst e1
    subst e2
    exact w_zret C rfl hst dX9_floor_19
  · have hf := ifp c_8 hf
    refine lv_iconst (v := 0) hx hb dX9_floor_11 (by decide) ?_
    obtain ⟨e1, e2⟩ := sinj hf
    subst e1
    subst e2
    exact w_zret C rfl hst dX9_floor_12
set_option maxRecDepth 100000 in
theorem mX9_floor (l : Launch) (D : va_G) (cI cZ : ClassId) (a : Nat → Nat) (x1 : Int32) (M : Mem) (r : Int32) (M' : Mem) (hf : fX9_floor x1 M = some (r, M')) : MI l D cI cZ (wM cI cZ a) yX9_floor cX9_floor 2 (some .boolean) 1 22 [.ref (a 0), .int x1] M r M' :=
  MI.of (by decide) (Nat.le_of_ble_eq_true rfl) (fun p e s m args below meth c A C hst ls hl => kX9_floor_0 C x1 M s.heap [] ls hf hst hl)

def gX9_runs_30 (x1 x2 : Int32) (M : Mem) : Res :=
  some ((1 : Int32), M)
def fX9_runs (x1 x2 : Int32) (M : Mem) : Res :=
  if x1 < 0 ∨ 40 ≤ Int32.toNatClampNeg x1 then none else (if x2 < (M 7 (Int32.toNatClampNeg x1)) then some ((0 : Int32), M) else (if (M 8 (Int32.toNatClampNeg x1)) = (-1 : Int32) then gX9_runs_30  x1 x2 M else (if (M 8 (Int32.toNatClampNeg x1)) ≤ x2 then some ((0 : Int32), M) else gX9_runs_30  x1 x2 M)))
theorem calX9_runs : Cal yX9_runs cX9_runs 3 (some .boolean) 2 := ⟨(mU3 181 rfl rfl), (mU1 10 rfl rfl), by decide +kernel⟩
theorem cavX9_runs : CalV yX9_runs := ⟨(mU3 180 rfl rfl), (mS1 14 rfl)⟩
set_option maxHeartbeats 4000000 in
set_option maxRecDepth 100000 in
theorem kX9_runs_30 {p : Program} {l : Launch} {e : Env} {s : State} {m : MethodId} {args : Array Value} {below : List Frame} {meth : Method} {c : Code} {D : va_G} {cI cZ : ClassId} {a : Nat → Nat} {A : Nat → Prop} {r : Int32} {M' : Mem} (C : Cx p s m args meth c cX9_runs 3 RX9 (some .boolean) D cI cZ A)  (x1 x2 : Int32) (M : Mem) (H : Heap) (locs : List Loc) (ls : Array Slot) (hf : gX9_runs_30 x1 x2 M = some (r, M')) (hst : St D (wM cI cZ a) A s.heap H locs M) (hl : lv_has ls 3 [(0, .ref (a 0)), (1, .int x1), (2, .int x2)]) : Wi p l e { frames := 0, cells := 0, slots := 0, locals := 0 } s m args below meth c D (wM cI cZ a) A r M' H locs (F0 m 30 ls []) := by
  unfold gX9_runs_30 at hf
  obtain ⟨hx, hb, hml, hown, hU, hr, hlk, hK, hA⟩ := id C
  refine lv_iconst (v := 1) hx hb dX9_runs_30 (by decide) ?_
  refine lv_goto (tgt := 35) hx hb dX9_runs_31 (by decide) ?_
  obtain ⟨e1, e2⟩ := sinj hf
  subst e1
  subst e2
  exact w_zret C rfl hst dX9_runs_35
set_option maxHeartbeats 4000000 in
set_option maxRecDepth 100000 in
theorem kX9_runs_0 {p : Program} {l : Launch} {e : Env} {s : State} {m : MethodId} {args : Array Value} {below : List Frame} {meth : Method} {c : Code} {D : va_G} {cI cZ : ClassId} {a : Nat → Nat} {A : Nat → Prop} {r : Int32} {M' : Mem} (C : Cx p s m args meth c cX9_runs 3 RX9 (some .boolean) D cI cZ A)  (x1 x2 : Int32) (M : Mem) (H : Heap) (locs : List Loc) (ls : Array Slot) (hf : fX9_runs x1 x2 M = some (r, M')) (hst : St D (wM cI cZ a) A s.heap H locs M) (hl : lv_has ls 3 [(0, .ref (a 0)), (1, .int x1), (2, .int x2)]) : Wi p l e { frames := 0, cells := 0, slots := 0, locals := 0 } s m args below meth c D (wM cI cZ a) A r M' H locs (F0 m 0 ls []) := by
  unfold fX9_runs at hf
  obtain ⟨hx, hb, hml, hown, hU, hr, hlk, hK, hA⟩ := id C
  refine lv_aload_n hx hb dX9_runs_0 rfl (lv_at hl 0 rfl) ?_
  refine gf_X9_33 C hst dX9_runs_1 ?_
  refine lv_iload_n hx hb dX9_runs_4 rfl (lv_at hl 1 rfl) ?_
  obtain ⟨h_5, hf⟩ := og hf
  refine w_iald (N := 40) (f := M 7) C hst 7 rfl h_5 dX9_runs_5 ?_
  refine lv_iload_n hx hb dX9_runs_6 rfl (lv_at hl 2 rfl) ?_
  refine lv_icmp_gt (tgt := 34) hx hb dX9_runs_7 (by decide) (fun c_7 => ?_) (fun c_7 => ?_)
  · have hf := ifp c_7 hf
    refine lv_iconst (v := 0) hx hb dX9_runs_34 (by decide) ?_
    obtain ⟨e1, e2⟩ := sinj hf
    subst e1
    subst e2
    exact w_zret C rfl hst dX9_runs_35
  · have hf := ifn c_7 hf
    refine lv_aload_n hx hb dX9_runs_10 rfl (lv_at hl 0 rfl) ?_
    refine gf_X9_36 C hst dX9_runs_11 ?_
    refine lv_iload_n hx hb dX9_runs_14 rfl (lv_at hl 1 rfl) ?_
    refine w_iald (N := 40) (f := M 8) C hst 8 rfl h_5 dX9_runs_15 ?_
    refine lv_iconst (v := -1) hx hb dX9_runs_16 (by decide) ?_
    refine lv_icmp_eq (tgt := 30) hx hb dX9_runs_17 (by decide) (fun c_17 => ?_) (fun c_17 => ?_)
    · have hf := ifp c_17 hf
      exact kX9_runs_30 C  x1 x2 M _ _ _ hf hst (lv_sub hl [0, 1, 2] rfl)
    · have hf := ifn c_17 hf
      refine lv_aload_n hx hb dX9_runs_20 rfl (lv_at hl 0 rfl) ?_
      refine gf_X9_36 C hst dX9_runs_21 ?_
      refine lv_iload_n hx hb dX9_runs_24 rfl (lv_at hl 1 rfl) ?_
      refine w_iald (N := 40) (f := M 8) C hst 8 rfl h_5 dX9_runs_25 ?_
      refine lv_iload_n hx hb dX9_runs_26 rfl (lv_at hl 2 rfl) ?_
      refine lv_icmp_le (tgt := 34) hx hb dX9_runs_27 (by decide) (fun c_27 => ?_) (fun c_27 => ?_)
      · have hf := ifp c_27 hf
        refine lv_iconst (v := 0) hx hb dX9_runs_34 (by decide) ?_
        obtain ⟨e1, e2⟩ := sinj hf
        subst e1
        subst e2
        exact w_zret C rfl hst dX9_runs_35
      · have hf := ifn c_27 hf
        exact kX9_runs_30 C  x1 x2 M _ _ _ hf hst (lv_sub hl [0, 1, 2] rfl)
set_option maxRecDepth 100000 in
theorem mX9_runs (l : Launch) (D : va_G) (cI cZ : ClassId) (a : Nat → Nat) (x1 x2 : Int32) (M : Mem) (r : Int32) (M' : Mem) (hf : fX9_runs x1 x2 M = some (r, M')) : MI l D cI cZ (wM cI cZ a) yX9_runs cX9_runs 3 (some .boolean) 0 0 [.ref (a 0), .int x1, .int x2] M r M' :=
  MI.of (by decide) (Nat.le_of_ble_eq_true rfl) (fun p e s m args below meth c A C hst ls hl => kX9_runs_0 C x1 x2 M s.heap [] ls hf hst hl)

def gX9_costOf_58 (K16 : Int32 → Int32 → Int32 → Int32 → Mem → Res) (x1 x2 x3 x4 z0 z1 : Int32) (M : Mem) : Res :=
  K16 x1 x2 (z0 + z1) (x4 + 1) M
def gX9_costOf_57 (K16 : Int32 → Int32 → Int32 → Int32 → Mem → Res) (x1 x2 x3 x4 z0 : Int32) (M : Mem) : Res :=
  gX9_costOf_58 K16 x1 x2 x3 x4 z0 (0 : Int32) M
def gX9_costOf_16 (K16 : Int32 → Int32 → Int32 → Int32 → Mem → Res) (x1 x2 x3 x4 : Int32) (M : Mem) : Res :=
  (if (M 0 1) ≤ x4 then some (x3, M) else if x4 < 0 ∨ 40 ≤ Int32.toNatClampNeg x4 then none else (if (M 5 (Int32.toNatClampNeg x4)) = x1 then obi (fX9_runs x4 x2 M) (fun r_41 M_41 => (if r_41 = 0 then gX9_costOf_57 K16 x1 x2 x3 x4 x3 M_41 else gX9_costOf_58 K16 x1 x2 x3 x4 x3 (M_41 6 (Int32.toNatClampNeg x4)) M_41)) else gX9_costOf_57 K16 x1 x2 x3 x4 x3 M))
def lX9_costOf_16 : Nat → Int32 → Int32 → Int32 → Int32 → Mem → Res
  | 0, _, _, _, _, _ => none
  | n + 1, x1, x2, x3, x4, M => gX9_costOf_16 (lX9_costOf_16 n) x1 x2 x3 x4 M
def fX9_costOf (x1 x2 : Int32) (M : Mem) : Res :=
  if (((2000 : Int32) * x1) + x2) < 0 ∨ 12000 ≤ Int32.toNatClampNeg (((2000 : Int32) * x1) + x2) then none else lX9_costOf_16  fu x1 x2 (M 2 (Int32.toNatClampNeg (((2000 : Int32) * x1) + x2))) (0 : Int32) M
theorem calX9_costOf : Cal yX9_costOf cX9_costOf 5 (some .int) 2 := ⟨(mU3 177 rfl rfl), (mU1 10 rfl rfl), by decide +kernel⟩
theorem cavX9_costOf : CalV yX9_costOf := ⟨(mU3 176 rfl rfl), (mS1 13 rfl)⟩
set_option maxHeartbeats 4000000 in
set_option maxRecDepth 100000 in
theorem kX9_costOf_58 {p : Program} {l : Launch} {e : Env} {s : State} {m : MethodId} {args : Array Value} {below : List Frame} {meth : Method} {c : Code} {D : va_G} {cI cZ : ClassId} {a : Nat → Nat} {A : Nat → Prop} {r : Int32} {M' : Mem} (C : Cx p s m args meth c cX9_costOf 5 RX9 (some .int) D cI cZ A) (K16 : Int32 → Int32 → Int32 → Int32 → Mem → Res) (hK16 : ∀ (x1 x2 x3 x4 : Int32) (M : Mem) (H : Heap) (locs : List Loc) (ls : Array Slot), K16 x1 x2 x3 x4 M = some (r, M') → St D (wM cI cZ a) A s.heap H locs M → lv_has ls 5 [(0, .ref (a 0)), (1, .int x1), (2, .int x2), (3, .int x3), (4, .int x4)] → Wi p l e { frames := 1, cells := 0, slots := 0, locals := 22 } s m args below meth c D (wM cI cZ a) A r M' H locs (F0 m 16 ls [])) (x1 x2 x3 x4 z0 z1 : Int32) (M : Mem) (H : Heap) (locs : List Loc) (ls : Array Slot) (hf : gX9_costOf_58 K16 x1 x2 x3 x4 z0 z1 M = some (r, M')) (hst : St D (wM cI cZ a) A s.heap H locs M) (hl : lv_has ls 5 [(0, .ref (a 0)), (1, .int x1), (2, .int x2), (3, .int x3), (4, .int x4)]) : Wi p l e { frames := 1, cells := 0, slots := 0, locals := 22 } s m args below meth c D (wM cI cZ a) A r M' H locs (F0 m 58 ls [.int z1, .int z0]) := by
  unfold gX9_costOf_58 at hf
  obtain ⟨hx, hb, hml, hown, hU, hr, hlk, hK, hA⟩ := id C
  refine lv_iadd hx hb dX9_costOf_58 ?_
  refine lv_istore_n (lv' := [(3, .int (z0 + z1)), (0, .ref (a 0)), (1, .int x1), (2, .int x2), (4, .int x4)]) hx hb dX9_costOf_59 rfl hl (by decide) rfl (fun ls hl => ?_)
  refine lv_iinc (v := (x4 + 1)) (lv' := [(4, .int (x4 + 1)), (3, .int (z0 + z1)), (0, .ref (a 0)), (1, .int x1), (2, .int x2)]) hx hb dX9_costOf_60 hl (k := 4) rfl rfl (by decide) rfl (fun ls hl => ?_)
  refine lv_goto (tgt := 16) hx hb dX9_costOf_63 (by decide) ?_
  exact hK16 x1 x2 (z0 + z1) (x4 + 1) M _ _ _ hf hst (lv_sub hl [2, 3, 4, 1, 0] rfl)
set_option maxHeartbeats 4000000 in
set_option maxRecDepth 100000 in
theorem kX9_costOf_57 {p : Program} {l : Launch} {e : Env} {s : State} {m : MethodId} {args : Array Value} {below : List Frame} {meth : Method} {c : Code} {D : va_G} {cI cZ : ClassId} {a : Nat → Nat} {A : Nat → Prop} {r : Int32} {M' : Mem} (C : Cx p s m args meth c cX9_costOf 5 RX9 (some .int) D cI cZ A) (K16 : Int32 → Int32 → Int32 → Int32 → Mem → Res) (hK16 : ∀ (x1 x2 x3 x4 : Int32) (M : Mem) (H : Heap) (locs : List Loc) (ls : Array Slot), K16 x1 x2 x3 x4 M = some (r, M') → St D (wM cI cZ a) A s.heap H locs M → lv_has ls 5 [(0, .ref (a 0)), (1, .int x1), (2, .int x2), (3, .int x3), (4, .int x4)] → Wi p l e { frames := 1, cells := 0, slots := 0, locals := 22 } s m args below meth c D (wM cI cZ a) A r M' H locs (F0 m 16 ls [])) (x1 x2 x3 x4 z0 : Int32) (M : Mem) (H : Heap) (locs : List Loc) (ls : Array Slot) (hf : gX9_costOf_57 K16 x1 x2 x3 x4 z0 M = some (r, M')) (hst : St D (wM cI cZ a) A s.heap H locs M) (hl : lv_has ls 5 [(0, .ref (a 0)), (1, .int x1), (2, .int x2), (3, .int x3), (4, .int x4)]) : Wi p l e { frames := 1, cells := 0, slots := 0, locals := 22 } s m args below meth c D (wM cI cZ a) A r M' H locs (F0 m 57 ls [.int z0]) := by
  unfold gX9_costOf_57 at hf
  obtain ⟨hx, hb, hml, hown, hU, hr, hlk, hK, hA⟩ := id C
  refine lv_iconst (v := 0) hx hb dX9_costOf_57 (by decide) ?_
  exact kX9_costOf_58 C K16 hK16 x1 x2 x3 x4 z0 (0 : Int32) M _ _ _ hf hst (lv_sub hl [0, 1, 2, 3, 4] rfl)
set_option maxHeartbeats 4000000 in
set_option maxRecDepth 100000 in
theorem kX9_costOf_16 {p : Program} {l : Launch} {e : Env} {s : State} {m : MethodId} {args : Array Value} {below : List Frame} {meth : Method} {c : Code} {D : va_G} {cI cZ : ClassId} {a : Nat → Nat} {A : Nat → Prop} {r : Int32} {M' : Mem} (C : Cx p s m args meth c cX9_costOf 5 RX9 (some .int) D cI cZ A) (K16 : Int32 → Int32 → Int32 → Int32 → Mem → Res) (hK16 : ∀ (x1 x2 x3 x4 : Int32) (M : Mem) (H : Heap) (locs : List Loc) (ls : Array Slot), K16 x1 x2 x3 x4 M = some (r, M') → St D (wM cI cZ a) A s.heap H locs M → lv_has ls 5 [(0, .ref (a 0)), (1, .int x1), (2, .int x2), (3, .int x3), (4, .int x4)] → Wi p l e { frames := 1, cells := 0, slots := 0, locals := 22 } s m args below meth c D (wM cI cZ a) A r M' H locs (F0 m 16 ls [])) (x1 x2 x3 x4 : Int32) (M : Mem) (H : Heap) (locs : List Loc) (ls : Array Slot) (hf : gX9_costOf_16 K16 x1 x2 x3 x4 M = some (r, M')) (hst : St D (wM cI cZ a) A s.heap H locs M) (hl : lv_has ls 5 [(0, .ref (a 0)), (1, .int x1), (2, .int x2), (3, .int x3), (4, .int x4)]) : Wi p l e { frames := 1, cells := 0, slots := 0, locals := 22 } s m args below meth c D (wM cI cZ a) A r M' H locs (F0 m 16 ls []) := by
  unfold gX9_costOf_16 at hf
  obtain ⟨hx, hb, hml, hown, hU, hr, hlk, hK, hA⟩ := id C
  refine lv_iload hx hb dX9_costOf_16 (lv_at hl 4 rfl) ?_
  refine lv_aload_n hx hb dX9_costOf_18 rfl (lv_at hl 0 rfl) ?_
  refine gf_X9_80 C hst dX9_costOf_19 ?_
  refine lv_icmp_ge (tgt := 66) hx hb dX9_costOf_22 (by decide) (fun c_22 => ?_) (fun c_22 => ?_)
  · have hf := ifp c_22 hf
    refine lv_iload_n hx hb dX9_costOf_66 rfl (lv_at hl 3 rfl) ?_
    obtain ⟨e1, e2⟩ := sinj hf
    subst e1
    subst e2
    exact w_iret C hst dX9_costOf_67
  · have hf := ifn c_22 hf
    refine lv_iload_n hx hb dX9_costOf_25 rfl (lv_at hl 3 rfl) ?_
    refine lv_aload_n hx hb dX9_costOf_26 rfl (lv_at hl 0 rfl) ?_
    refine gf_X9_27 C hst dX9_costOf_27 ?_
    refine lv_iload hx hb dX9_costOf_30 (lv_at hl 4 rfl) ?_
    obtain ⟨h_32, hf⟩ := og hf
    refine w_iald (N := 40) (f := M 5) C hst 5 rfl h_32 dX9_costOf_32 ?_
    refine lv_iload_n hx hb dX9_costOf_33 rfl (lv_at hl 1 rfl) ?_
    refine lv_icmp_ne (tgt := 57) hx hb dX9_costOf_34 (by decide) (fun c_34 => ?_) (fun c_34 => ?_)
    · have hf := ifn c_34 hf
      exact kX9_costOf_57 C K16 hK16 x1 x2 x3 x4 x3 M _ _ _ hf hst (lv_sub hl [0, 1, 2, 3, 4] rfl)
    · have hf := ifp c_34 hf
      refine lv_aload_n hx hb dX9_costOf_37 rfl (lv_at hl 0 rfl) ?_
      refine lv_iload hx hb dX9_costOf_38 (lv_at hl 4 rfl) ?_
      refine lv_iload_n hx hb dX9_costOf_40 rfl (lv_at hl 2 rfl) ?_
      obtain ⟨r_41, M_41, hc_41, hf⟩ := obi_some hf
      refine w_cVi (As := [.int x4, .int x2]) (rest := [.int x3]) C (wM_ad cI cZ a) (mX9_runs l D cI cZ a x4 x2 M r_41 M_41 hc_41) calX9_runs cavX9_runs (mU3 178 rfl rfl) hst hl.1 0 9 rfl rfl rfl rfl (Nat.le_of_ble_eq_true rfl) ⟨Nat.le_of_ble_eq_true rfl, Nat.le_of_ble_eq_true rfl⟩ dX9_costOf_41 (fun H locs hst => ?_)
      refine lv_if_eq (tgt := 57) hx hb dX9_costOf_44 (by decide) (fun c_44 => ?_) (fun c_44 => ?_)
      · have hf := ifp c_44 hf
        exact kX9_costOf_57 C K16 hK16 x1 x2 x3 x4 x3 M_41 _ _ _ hf hst (lv_sub hl [0, 1, 2, 3, 4] rfl)
      · have hf := ifn c_44 hf
        refine lv_aload_n hx hb dX9_costOf_47 rfl (lv_at hl 0 rfl) ?_
        refine gf_X9_30 C hst dX9_costOf_48 ?_
        refine lv_iload hx hb dX9_costOf_51 (lv_at hl 4 rfl) ?_
        refine w_iald (N := 40) (f := M_41 6) C hst 6 rfl h_32 dX9_costOf_53 ?_
        refine lv_goto (tgt := 58) hx hb dX9_costOf_54 (by decide) ?_
        exact kX9_costOf_58 C K16 hK16 x1 x2 x3 x4 x3 (M_41 6 (Int32.toNatClampNeg x4)) M_41 _ _ _ hf hst (lv_sub hl [0, 1, 2, 3, 4] rfl)
theorem tX9_costOf_16 {p : Program} {l : Launch} {e : Env} {s : State} {m : MethodId} {args : Array Value} {below : List Frame} {meth : Method} {c : Code} {D : va_G} {cI cZ : ClassId} {a : Nat → Nat} {A : Nat → Prop} {r : Int32} {M' : Mem} (C : Cx p s m args meth c cX9_costOf 5 RX9 (some .int) D cI cZ A)  : ∀ (n : Nat) (x1 x2 x3 x4 : Int32) (M : Mem) (H : Heap) (locs : List Loc) (ls : Array Slot), lX9_costOf_16 n x1 x2 x3 x4 M = some (r, M') → St D (wM cI cZ a) A s.heap H locs M → lv_has ls 5 [(0, .ref (a 0)), (1, .int x1), (2, .int x2), (3, .int x3), (4, .int x4)] → Wi p l e { frames := 1, cells := 0, slots := 0, locals := 22 } s m args below meth c D (wM cI cZ a) A r M' H locs (F0 m 16 ls []) := by
  intro n
  induction n with
  | zero =>
    intro x1 x2 x3 x4 M H locs ls hf
    exact nomatch (show (none : Res) = some (r, M') from hf)
  | succ n ih =>
    intro x1 x2 x3 x4 M H locs ls hf hst hl
    exact kX9_costOf_16 C (lX9_costOf_16 n) ih x1 x2 x3 x4 M H locs ls hf hst hl

set_option maxHeartbeats 4000000 in
set_option maxRecDepth 100000 in
theorem kX9_costOf_0 {p : Program} {l : Launch} {e : Env} {s : State} {m : MethodId} {args : Array Value} {below : List Frame} {meth : Method} {c : Code} {D : va_G} {cI cZ : ClassId} {a : Nat → Nat} {A : Nat → Prop} {r : Int32} {M' : Mem} (C : Cx p s m args meth c cX9_costOf 5 RX9 (some .int) D cI cZ A)  (x1 x2 : Int32) (M : Mem) (H : Heap) (locs : List Loc) (ls : Array Slot) (hf : fX9_costOf x1 x2 M = some (r, M')) (hst : St D (wM cI cZ a) A s.heap H locs M) (hl : lv_has ls 5 [(0, .ref (a 0)), (1, .int x1), (2, .int x2)]) : Wi p l e { frames := 1, cells := 0, slots := 0, locals := 22 } s m args below meth c D (wM cI cZ a) A r M' H locs (F0 m 0 ls []) := by
  unfold fX9_costOf at hf
  obtain ⟨hx, hb, hml, hown, hU, hr, hlk, hK, hA⟩ := id C
  refine lv_aload_n hx hb dX9_costOf_0 rfl (lv_at hl 0 rfl) ?_
  refine gf_X9_17 C hst dX9_costOf_1 ?_
  refine lv_sipush (v := 2000) hx hb dX9_costOf_4 (by decide) ?_
  refine lv_iload_n hx hb dX9_costOf_7 rfl (lv_at hl 1 rfl) ?_
  refine lv_imul hx hb dX9_costOf_8 ?_
  refine lv_iload_n hx hb dX9_costOf_9 rfl (lv_at hl 2 rfl) ?_
  refine lv_iadd hx hb dX9_costOf_10 ?_
  obtain ⟨h_11, hf⟩ := og hf
  refine w_iald (N := 12000) (f := M 2) C hst 2 rfl h_11 dX9_costOf_11 ?_
  refine lv_istore_n (lv' := [(3, .int (M 2 (Int32.toNatClampNeg (((2000 : Int32) * x1) + x2)))), (0, .ref (a 0)), (1, .int x1), (2, .int x2)]) hx hb dX9_costOf_12 rfl hl (by decide) rfl (fun ls hl => ?_)
  refine lv_iconst (v := 0) hx hb dX9_costOf_13 (by decide) ?_
  refine lv_istore (lv' := [(4, .int (0 : Int32)), (3, .int (M 2 (Int32.toNatClampNeg (((2000 : Int32) * x1) + x2)))), (0, .ref (a 0)), (1, .int x1), (2, .int x2)]) hx hb dX9_costOf_14 hl (by decide) rfl (fun ls hl => ?_)
  exact tX9_costOf_16 C  fu x1 x2 (M 2 (Int32.toNatClampNeg (((2000 : Int32) * x1) + x2))) (0 : Int32) M _ _ _ hf hst (lv_sub hl [2, 3, 4, 1, 0] rfl)
set_option maxRecDepth 100000 in
theorem mX9_costOf (l : Launch) (D : va_G) (cI cZ : ClassId) (a : Nat → Nat) (x1 x2 : Int32) (M : Mem) (r : Int32) (M' : Mem) (hf : fX9_costOf x1 x2 M = some (r, M')) : MI l D cI cZ (wM cI cZ a) yX9_costOf cX9_costOf 5 (some .int) 1 22 [.ref (a 0), .int x1, .int x2] M r M' :=
  MI.of (by decide) (Nat.le_of_ble_eq_true rfl) (fun p e s m args below meth c A C hst ls hl => kX9_costOf_0 C x1 x2 M s.heap [] ls hf hst hl)

def fX9_isHour (x1 : Int32) (M : Mem) : Res :=
  obi (fX9_isIn x1 (0 : Int32) (M 0 0) M) (fun r_6 M_6 => if ¬ (r_6 = 0 ∨ r_6 = 1) then none else some (r_6, M_6))
theorem calX9_isHour : Cal yX9_isHour cX9_isHour 2 (some .boolean) 1 := ⟨(mU3 173 rfl rfl), (mU1 10 rfl rfl), by decide +kernel⟩
theorem cavX9_isHour : CalV yX9_isHour := ⟨(mU3 172 rfl rfl), (mS1 12 rfl)⟩
set_option maxHeartbeats 4000000 in
set_option maxRecDepth 100000 in
theorem kX9_isHour_0 {p : Program} {l : Launch} {e : Env} {s : State} {m : MethodId} {args : Array Value} {below : List Frame} {meth : Method} {c : Code} {D : va_G} {cI cZ : ClassId} {a : Nat → Nat} {A : Nat → Prop} {r : Int32} {M' : Mem} (C : Cx p s m args meth c cX9_isHour 2 RX9 (some .boolean) D cI cZ A)  (x1 : Int32) (M : Mem) (H : Heap) (locs : List Loc) (ls : Array Slot) (hf : fX9_isHour x1 M = some (r, M')) (hst : St D (wM cI cZ a) A s.heap H locs M) (hl : lv_has ls 2 [(0, .ref (a 0)), (1, .int x1)]) : Wi p l e { frames := 1, cells := 0, slots := 0, locals := 22 } s m args below meth c D (wM cI cZ a) A r M' H locs (F0 m 0 ls []) := by
  unfold fX9_isHour at hf
  obtain ⟨hx, hb, hml, hown, hU, hr, hlk, hK, hA⟩ := id C
  refine lv_iload_n hx hb dX9_isHour_0 rfl (lv_at hl 1 rfl) ?_
  refine lv_iconst (v := 0) hx hb dX9_isHour_1 (by decide) ?_
  refine lv_aload_n hx hb dX9_isHour_2 rfl (lv_at hl 0 rfl) ?_
  refine gf_X9_83 C hst dX9_isHour_3 ?_
  obtain ⟨r_6, M_6, hc_6, hf⟩ := obi_some hf
  refine w_cSi (As := [.int x1, .int (0 : Int32), .int (M 0 0)]) (rest := []) C (wM_ad cI cZ a) (mX9_isIn l D cI cZ a x1 (0 : Int32) (M 0 0) M r_6 M_6 hc_6) calX9_isIn casX9_isIn (mU3 135 rfl rfl) hst hl.1 rfl rfl (Nat.le_of_ble_eq_true rfl) ⟨Nat.le_of_ble_eq_true rfl, Nat.le_of_ble_eq_true rfl⟩ dX9_isHour_6 (fun H locs hst => ?_)
  obtain ⟨h_9, hf⟩ := og hf
  obtain ⟨e1, e2⟩ := sinj hf
  subst e1
  subst e2
  exact w_zret C (ng h_9) hst dX9_isHour_9
set_option maxRecDepth 100000 in
theorem mX9_isHour (l : Launch) (D : va_G) (cI cZ : ClassId) (a : Nat → Nat) (x1 : Int32) (M : Mem) (r : Int32) (M' : Mem) (hf : fX9_isHour x1 M = some (r, M')) : MI l D cI cZ (wM cI cZ a) yX9_isHour cX9_isHour 2 (some .boolean) 1 22 [.ref (a 0), .int x1] M r M' :=
  MI.of (by decide) (Nat.le_of_ble_eq_true rfl) (fun p e s m args below meth c A C hst ls hl => kX9_isHour_0 C x1 M s.heap [] ls hf hst hl)

def fX9_cost (x1 x2 : Int32) (M : Mem) : Res :=
  obi (fX9_isService x1 M) (fun r_1 M_1 => (if r_1 = 0 then some ((-1 : Int32), M_1) else obi (fX9_isHour x2 M_1) (fun r_9 M_9 => (if r_9 = 0 then some ((-1 : Int32), M_9) else obi (fX9_costOf x1 x2 M_9) (fun r_18 M_18 => some (r_18, M_18))))))
theorem calX9_cost : Cal yX9_cost cX9_cost 3 (some .int) 2 := ⟨(mU3 169 rfl rfl), (mU1 10 rfl rfl), by decide +kernel⟩
theorem cavX9_cost : CalV yX9_cost := ⟨(mU3 167 rfl rfl), (mU3 168 rfl rfl)⟩
set_option maxHeartbeats 4000000 in
set_option maxRecDepth 100000 in
theorem kX9_cost_0 {p : Program} {l : Launch} {e : Env} {s : State} {m : MethodId} {args : Array Value} {below : List Frame} {meth : Method} {c : Code} {D : va_G} {cI cZ : ClassId} {a : Nat → Nat} {A : Nat → Prop} {r : Int32} {M' : Mem} (C : Cx p s m args meth c cX9_cost 3 RX9 (some .int) D cI cZ A)  (x1 x2 : Int32) (M : Mem) (H : Heap) (locs : List Loc) (ls : Array Slot) (hf : fX9_cost x1 x2 M = some (r, M')) (hst : St D (wM cI cZ a) A s.heap H locs M) (hl : lv_has ls 3 [(0, .ref (a 0)), (1, .int x1), (2, .int x2)]) : Wi p l e { frames := 2, cells := 0, slots := 0, locals := 46 } s m args below meth c D (wM cI cZ a) A r M' H locs (F0 m 0 ls []) := by
  unfold fX9_cost at hf
  obtain ⟨hx, hb, hml, hown, hU, hr, hlk, hK, hA⟩ := id C
  refine lv_iload_n hx hb dX9_cost_0 rfl (lv_at hl 1 rfl) ?_
  obtain ⟨r_1, M_1, hc_1, hf⟩ := obi_some hf
  refine w_cSi (As := [.int x1]) (rest := []) C (wM_ad cI cZ a) (mX9_isService l D cI cZ a x1 M r_1 M_1 hc_1) calX9_isService casX9_isService (mU3 132 rfl rfl) hst hl.1 rfl rfl (Nat.le_of_ble_eq_true rfl) ⟨Nat.le_of_ble_eq_true rfl, Nat.le_of_ble_eq_true rfl⟩ dX9_cost_1 (fun H locs hst => ?_)
  refine lv_if_eq (tgt := 24) hx hb dX9_cost_4 (by decide) (fun c_4 => ?_) (fun c_4 => ?_)
  · have hf := ifp c_4 hf
    refine lv_iconst (v := -1) hx hb dX9_cost_24 (by decide) ?_
    obtain ⟨e1, e2⟩ := sinj hf
    subst e1
    subst e2
    exact w_iret C hst dX9_cost_25
  · have hf := ifn c_4 hf
    refine lv_aload_n hx hb dX9_cost_7 rfl (lv_at hl 0 rfl) ?_
    refine lv_iload_n hx hb dX9_cost_8 rfl (lv_at hl 2 rfl) ?_
    obtain ⟨r_9, M_9, hc_9, hf⟩ := obi_some hf
    refine w_cVi (As := [.int x2]) (rest := []) C (wM_ad cI cZ a) (mX9_isHour l D cI cZ a x2 M_1 r_9 M_9 hc_9) calX9_isHour cavX9_isHour (mU3 170 rfl rfl) hst hl.1 0 9 rfl rfl rfl rfl (Nat.le_of_ble_eq_true rfl) ⟨Nat.le_of_ble_eq_true rfl, Nat.le_of_ble_eq_true rfl⟩ dX9_cost_9 (fun H locs hst => ?_)
    refine lv_if_eq (tgt := 24) hx hb dX9_cost_12 (by decide) (fun c_12 => ?_) (fun c_12 => ?_)
    · have hf := ifp c_12 hf
      refine lv_iconst (v := -1) hx hb dX9_cost_24 (by decide) ?_
      obtain ⟨e1, e2⟩ := sinj hf
      subst e1
      subst e2
      exact w_iret C hst dX9_cost_25
    · have hf := ifn c_12 hf
      refine lv_aload_n hx hb dX9_cost_15 rfl (lv_at hl 0 rfl) ?_
      refine lv_iload_n hx hb dX9_cost_16 rfl (lv_at hl 1 rfl) ?_
      refine lv_iload_n hx hb dX9_cost_17 rfl (lv_at hl 2 rfl) ?_
      obtain ⟨r_18, M_18, hc_18, hf⟩ := obi_some hf
      refine w_cVi (As := [.int x1, .int x2]) (rest := []) C (wM_ad cI cZ a) (mX9_costOf l D cI cZ a x1 x2 M_9 r_18 M_18 hc_18) calX9_costOf cavX9_costOf (mU3 174 rfl rfl) hst hl.1 0 9 rfl rfl rfl rfl (Nat.le_of_ble_eq_true rfl) ⟨Nat.le_of_ble_eq_true rfl, Nat.le_of_ble_eq_true rfl⟩ dX9_cost_18 (fun H locs hst => ?_)
      refine lv_goto (tgt := 25) hx hb dX9_cost_21 (by decide) ?_
      obtain ⟨e1, e2⟩ := sinj hf
      subst e1
      subst e2
      exact w_iret C hst dX9_cost_25
set_option maxRecDepth 100000 in
theorem mX9_cost (l : Launch) (D : va_G) (cI cZ : ClassId) (a : Nat → Nat) (x1 x2 : Int32) (M : Mem) (r : Int32) (M' : Mem) (hf : fX9_cost x1 x2 M = some (r, M')) : MI l D cI cZ (wM cI cZ a) yX9_cost cX9_cost 3 (some .int) 2 46 [.ref (a 0), .int x1, .int x2] M r M' :=
  MI.of (by decide) (Nat.le_of_ble_eq_true rfl) (fun p e s m args below meth c A C hst ls hl => kX9_cost_0 C x1 x2 M s.heap [] ls hf hst hl)

def gX9_median_57 (K2 : Int32 → Int32 → Mem → Res) (x1 x2 x3 x4 : Int32) (M : Mem) : Res :=
  if x4 < 0 ∨ 7 ≤ Int32.toNatClampNeg x4 then none else K2 x1 (x2 + 1) (upM M 9 (Int32.toNatClampNeg x4) x3)
def gX9_median_17 (K2 : Int32 → Int32 → Mem → Res) (K17 : Int32 → Int32 → Int32 → Int32 → Mem → Res) (x1 x2 x3 x4 : Int32) (M : Mem) : Res :=
  (if x4 ≤ 0 then gX9_median_57 K2 x1 x2 x3 x4 M else if (x4 - (1 : Int32)) < 0 ∨ 7 ≤ Int32.toNatClampNeg (x4 - (1 : Int32)) then none else (if (M 9 (Int32.toNatClampNeg (x4 - (1 : Int32)))) ≤ x3 then gX9_median_57 K2 x1 x2 x3 x4 M else if x4 < 0 ∨ 7 ≤ Int32.toNatClampNeg x4 then none else K17 x1 x2 x3 (x4 + (-1)) (upM M 9 (Int32.toNatClampNeg x4) (M 9 (Int32.toNatClampNeg (x4 - (1 : Int32)))))))
def lX9_median_17 (K2 : Int32 → Int32 → Mem → Res) : Nat → Int32 → Int32 → Int32 → Int32 → Mem → Res
  | 0, _, _, _, _, _ => none
  | n + 1, x1, x2, x3, x4, M => gX9_median_17 K2 (lX9_median_17 K2 n) x1 x2 x3 x4 M
def gX9_median_2 (K2 : Int32 → Int32 → Mem → Res) (x1 x2 : Int32) (M : Mem) : Res :=
  (if x1 ≤ x2 then if ((x1 - (1 : Int32)) / (2 : Int32)) < 0 ∨ 7 ≤ Int32.toNatClampNeg ((x1 - (1 : Int32)) / (2 : Int32)) then none else some ((M 9 (Int32.toNatClampNeg ((x1 - (1 : Int32)) / (2 : Int32)))), M) else if x2 < 0 ∨ 7 ≤ Int32.toNatClampNeg x2 then none else lX9_median_17 K2 fu x1 x2 (M 9 (Int32.toNatClampNeg x2)) x2 M)
def lX9_median_2 : Nat → Int32 → Int32 → Mem → Res
  | 0, _, _, _ => none
  | n + 1, x1, x2, M => gX9_median_2 (lX9_median_2 n) x1 x2 M
def fX9_median (x1 : Int32) (M : Mem) : Res :=
  lX9_median_2  fu x1 (1 : Int32) M
theorem calX9_median : Cal yX9_median cX9_median 5 (some .int) 1 := ⟨(mU3 197 rfl rfl), (mU1 10 rfl rfl), by decide +kernel⟩
theorem cavX9_median : CalV yX9_median := ⟨(mU3 196 rfl rfl), (mS2 1 rfl)⟩
set_option maxHeartbeats 4000000 in
set_option maxRecDepth 100000 in
theorem kX9_median_57 {p : Program} {l : Launch} {e : Env} {s : State} {m : MethodId} {args : Array Value} {below : List Frame} {meth : Method} {c : Code} {D : va_G} {cI cZ : ClassId} {a : Nat → Nat} {A : Nat → Prop} {r : Int32} {M' : Mem} (C : Cx p s m args meth c cX9_median 5 RX9 (some .int) D cI cZ A) (K2 : Int32 → Int32 → Mem → Res) (hK2 : ∀ (x1 x2 : Int32) (M : Mem) (H : Heap) (locs : List Loc) (ls : Array Slot), K2 x1 x2 M = some (r, M') → St D (wM cI cZ a) A s.heap H locs M → lv_has ls 5 [(0, .ref (a 0)), (1, .int x1), (2, .int x2)] → Wi p l e { frames := 0, cells := 0, slots := 0, locals := 0 } s m args below meth c D (wM cI cZ a) A r M' H locs (F0 m 2 ls [])) (x1 x2 x3 x4 : Int32) (M : Mem) (H : Heap) (locs : List Loc) (ls : Array Slot) (hf : gX9_median_57 K2 x1 x2 x3 x4 M = some (r, M')) (hst : St D (wM cI cZ a) A s.heap H locs M) (hl : lv_has ls 5 [(0, .ref (a 0)), (1, .int x1), (2, .int x2), (3, .int x3), (4, .int x4)]) : Wi p l e { frames := 0, cells := 0, slots := 0, locals := 0 } s m args below meth c D (wM cI cZ a) A r M' H locs (F0 m 57 ls []) := by
  unfold gX9_median_57 at hf
  obtain ⟨hx, hb, hml, hown, hU, hr, hlk, hK, hA⟩ := id C
  refine lv_aload_n hx hb dX9_median_57 rfl (lv_at hl 0 rfl) ?_
  refine gf_X9_39 C hst dX9_median_58 ?_
  refine lv_iload hx hb dX9_median_61 (lv_at hl 4 rfl) ?_
  refine lv_iload_n hx hb dX9_median_63 rfl (lv_at hl 3 rfl) ?_
  obtain ⟨h_64, hf⟩ := og hf
  refine w_iast (N := 7) (f := M 9) (M' := (upM M 9 (Int32.toNatClampNeg x4) x3)) C hst 9 rfl (wM_set9 cI cZ a M (Int32.toNatClampNeg x4) x3) h_64 dX9_median_64 (fun H locs hst => ?_)
  refine lv_iinc (v := (x2 + 1)) (lv' := [(2, .int (x2 + 1)), (0, .ref (a 0)), (1, .int x1), (3, .int x3), (4, .int x4)]) hx hb dX9_median_65 hl (k := 2) rfl rfl (by decide) rfl (fun ls hl => ?_)
  refine lv_goto (tgt := 2) hx hb dX9_median_68 (by decide) ?_
  exact hK2 x1 (x2 + 1) (upM M 9 (Int32.toNatClampNeg x4) x3) _ _ _ hf hst (lv_sub hl [1, 2, 0] rfl)
set_option maxHeartbeats 4000000 in
set_option maxRecDepth 100000 in
theorem kX9_median_17 {p : Program} {l : Launch} {e : Env} {s : State} {m : MethodId} {args : Array Value} {below : List Frame} {meth : Method} {c : Code} {D : va_G} {cI cZ : ClassId} {a : Nat → Nat} {A : Nat → Prop} {r : Int32} {M' : Mem} (C : Cx p s m args meth c cX9_median 5 RX9 (some .int) D cI cZ A) (K2 : Int32 → Int32 → Mem → Res) (hK2 : ∀ (x1 x2 : Int32) (M : Mem) (H : Heap) (locs : List Loc) (ls : Array Slot), K2 x1 x2 M = some (r, M') → St D (wM cI cZ a) A s.heap H locs M → lv_has ls 5 [(0, .ref (a 0)), (1, .int x1), (2, .int x2)] → Wi p l e { frames := 0, cells := 0, slots := 0, locals := 0 } s m args below meth c D (wM cI cZ a) A r M' H locs (F0 m 2 ls [])) (K17 : Int32 → Int32 → Int32 → Int32 → Mem → Res) (hK17 : ∀ (x1 x2 x3 x4 : Int32) (M : Mem) (H : Heap) (locs : List Loc) (ls : Array Slot), K17 x1 x2 x3 x4 M = some (r, M') → St D (wM cI cZ a) A s.heap H locs M → lv_has ls 5 [(0, .ref (a 0)), (1, .int x1), (2, .int x2), (3, .int x3), (4, .int x4)] → Wi p l e { frames := 0, cells := 0, slots := 0, locals := 0 } s m args below meth c D (wM cI cZ a) A r M' H locs (F0 m 17 ls [])) (x1 x2 x3 x4 : Int32) (M : Mem) (H : Heap) (locs : List Loc) (ls : Array Slot) (hf : gX9_median_17 K2 K17 x1 x2 x3 x4 M = some (r, M')) (hst : St D (wM cI cZ a) A s.heap H locs M) (hl : lv_has ls 5 [(0, .ref (a 0)), (1, .int x1), (2, .int x2), (3, .int x3), (4, .int x4)]) : Wi p l e { frames := 0, cells := 0, slots := 0, locals := 0 } s m args below meth c D (wM cI cZ a) A r M' H locs (F0 m 17 ls []) := by
  unfold gX9_median_17 at hf
  obtain ⟨hx, hb, hml, hown, hU, hr, hlk, hK, hA⟩ := id C
  refine lv_iload hx hb dX9_median_17 (lv_at hl 4 rfl) ?_
  refine lv_if_le (tgt := 57) hx hb dX9_median_19 (by decide) (fun c_19 => ?_) (fun c_19 => ?_)
  · have hf := ifp c_19 hf
    exact kX9_median_57 C K2 hK2 x1 x2 x3 x4 M _ _ _ hf hst (lv_sub hl [0, 1, 2, 3, 4] rfl)
  · have hf := ifn c_19 hf
    refine lv_aload_n hx hb dX9_median_22 rfl (lv_at hl 0 rfl) ?_
    refine gf_X9_39 C hst dX9_median_23 ?_
    refine lv_iload hx hb dX9_median_26 (lv_at hl 4 rfl) ?_
    refine lv_iconst (v := 1) hx hb dX9_median_28 (by decide) ?_
    refine lv_isub hx hb dX9_median_29 ?_
    obtain ⟨h_30, hf⟩ := og hf
    refine w_iald (N := 7) (f := M 9) C hst 9 rfl h_30 dX9_median_30 ?_
    refine lv_iload_n hx hb dX9_median_31 rfl (lv_at hl 3 rfl) ?_
    refine lv_icmp_le (tgt := 57) hx hb dX9_median_32 (by decide) (fun c_32 => ?_) (fun c_32 => ?_)
    · have hf := ifp c_32 hf
      exact kX9_median_57 C K2 hK2 x1 x2 x3 x4 M _ _ _ hf hst (lv_sub hl [0, 1, 2, 3, 4] rfl)
    · have hf := ifn c_32 hf
      refine lv_aload_n hx hb dX9_median_35 rfl (lv_at hl 0 rfl) ?_
      refine gf_X9_39 C hst dX9_median_36 ?_
      refine lv_iload hx hb dX9_median_39 (lv_at hl 4 rfl) ?_
      refine lv_aload_n hx hb dX9_median_41 rfl (lv_at hl 0 rfl) ?_
      refine gf_X9_39 C hst dX9_median_42 ?_
      refine lv_iload hx hb dX9_median_45 (lv_at hl 4 rfl) ?_
      refine lv_iconst (v := 1) hx hb dX9_median_47 (by decide) ?_
      refine lv_isub hx hb dX9_median_48 ?_
      refine w_iald (N := 7) (f := M 9) C hst 9 rfl h_30 dX9_median_49 ?_
      obtain ⟨h_50, hf⟩ := og hf
      refine w_iast (N := 7) (f := M 9) (M' := (upM M 9 (Int32.toNatClampNeg x4) (M 9 (Int32.toNatClampNeg (x4 - (1 : Int32)))))) C hst 9 rfl (wM_set9 cI cZ a M (Int32.toNatClampNeg x4) (M 9 (Int32.toNatClampNeg (x4 - (1 : Int32))))) h_50 dX9_median_50 (fun H locs hst => ?_)
      refine lv_iinc (v := (x4 + (-1))) (lv' := [(4, .int (x4 + (-1))), (0, .ref (a 0)), (1, .int x1), (2, .int x2), (3, .int x3)]) hx hb dX9_median_51 hl (k := 4) rfl rfl (by decide) rfl (fun ls hl => ?_)
      refine lv_goto (tgt := 17) hx hb dX9_median_54 (by decide) ?_
      exact hK17 x1 x2 x3 (x4 + (-1)) (upM M 9 (Int32.toNatClampNeg x4) (M 9 (Int32.toNatClampNeg (x4 - (1 : Int32))))) _ _ _ hf hst (lv_sub hl [1, 2, 3, 4, 0] rfl)
theorem tX9_median_17 {p : Program} {l : Launch} {e : Env} {s : State} {m : MethodId} {args : Array Value} {below : List Frame} {meth : Method} {c : Code} {D : va_G} {cI cZ : ClassId} {a : Nat → Nat} {A : Nat → Prop} {r : Int32} {M' : Mem} (C : Cx p s m args meth c cX9_median 5 RX9 (some .int) D cI cZ A) (K2 : Int32 → Int32 → Mem → Res) (hK2 : ∀ (x1 x2 : Int32) (M : Mem) (H : Heap) (locs : List Loc) (ls : Array Slot), K2 x1 x2 M = some (r, M') → St D (wM cI cZ a) A s.heap H locs M → lv_has ls 5 [(0, .ref (a 0)), (1, .int x1), (2, .int x2)] → Wi p l e { frames := 0, cells := 0, slots := 0, locals := 0 } s m args below meth c D (wM cI cZ a) A r M' H locs (F0 m 2 ls [])) : ∀ (n : Nat) (x1 x2 x3 x4 : Int32) (M : Mem) (H : Heap) (locs : List Loc) (ls : Array Slot), lX9_median_17 K2 n x1 x2 x3 x4 M = some (r, M') → St D (wM cI cZ a) A s.heap H locs M → lv_has ls 5 [(0, .ref (a 0)), (1, .int x1), (2, .int x2), (3, .int x3), (4, .int x4)] → Wi p l e { frames := 0, cells := 0, slots := 0, locals := 0 } s m args below meth c D (wM cI cZ a) A r M' H locs (F0 m 17 ls []) := by
  intro n
  induction n with
  | zero =>
    intro x1 x2 x3 x4 M H locs ls hf
    exact nomatch (show (none : Res) = some (r, M') from hf)
  | succ n ih =>
    intro x1 x2 x3 x4 M H locs ls hf hst hl
    exact kX9_median_17 C K2 hK2 (lX9_median_17 K2 n) ih x1 x2 x3 x4 M H locs ls hf hst hl

set_option maxHeartbeats 4000000 in
set_option maxRecDepth 100000 in
theorem kX9_median_2 {p : Program} {l : Launch} {e : Env} {s : State} {m : MethodId} {args : Array Value} {below : List Frame} {meth : Method} {c : Code} {D : va_G} {cI cZ : ClassId} {a : Nat → Nat} {A : Nat → Prop} {r : Int32} {M' : Mem} (C : Cx p s m args meth c cX9_median 5 RX9 (some .int) D cI cZ A) (K2 : Int32 → Int32 → Mem → Res) (hK2 : ∀ (x1 x2 : Int32) (M : Mem) (H : Heap) (locs : List Loc) (ls : Array Slot), K2 x1 x2 M = some (r, M') → St D (wM cI cZ a) A s.heap H locs M → lv_has ls 5 [(0, .ref (a 0)), (1, .int x1), (2, .int x2)] → Wi p l e { frames := 0, cells := 0, slots := 0, locals := 0 } s m args below meth c D (wM cI cZ a) A r M' H locs (F0 m 2 ls [])) (x1 x2 : Int32) (M : Mem) (H : Heap) (locs : List Loc) (ls : Array Slot) (hf : gX9_median_2 K2 x1 x2 M = some (r, M')) (hst : St D (wM cI cZ a) A s.heap H locs M) (hl : lv_has ls 5 [(0, .ref (a 0)), (1, .int x1), (2, .int x2)]) : Wi p l e { frames := 0, cells := 0, slots := 0, locals := 0 } s m args below meth c D (wM cI cZ a) A r M' H locs (F0 m 2 ls []) := by
  unfold gX9_median_2 at hf
  obtain ⟨hx, hb, hml, hown, hU, hr, hlk, hK, hA⟩ := id C
  refine lv_iload_n hx hb dX9_median_2 rfl (lv_at hl 2 rfl) ?_
  refine lv_iload_n hx hb dX9_median_3 rfl (lv_at hl 1 rfl) ?_
  refine lv_icmp_ge (tgt := 71) hx hb dX9_median_4 (by decide) (fun c_4 => ?_) (fun c_4 => ?_)
  · have hf := ifp c_4 hf
    refine lv_aload_n hx hb dX9_median_71 rfl (lv_at hl 0 rfl) ?_
    refine gf_X9_39 C hst dX9_median_72 ?_
    refine lv_iload_n hx hb dX9_median_75 rfl (lv_at hl 1 rfl) ?_
    refine lv_iconst (v := 1) hx hb dX9_median_76 (by decide) ?_
    refine lv_isub hx hb dX9_median_77 ?_
    refine lv_iconst (v := 2) hx hb dX9_median_78 (by decide) ?_
    refine lv_idiv hx hb dX9_median_79 (by decide) ?_
    obtain ⟨h_80, hf⟩ := og hf
    refine w_iald (N := 7) (f := M 9) C hst 9 rfl h_80 dX9_median_80 ?_
    obtain ⟨e1, e2⟩ := sinj hf
    subst e1
    subst e2
    exact w_iret C hst dX9_median_81
  · have hf := ifn c_4 hf
    refine lv_aload_n hx hb dX9_median_7 rfl (lv_at hl 0 rfl) ?_
    refine gf_X9_39 C hst dX9_median_8 ?_
    refine lv_iload_n hx hb dX9_median_11 rfl (lv_at hl 2 rfl) ?_
    obtain ⟨h_12, hf⟩ := og hf
    refine w_iald (N := 7) (f := M 9) C hst 9 rfl h_12 dX9_median_12 ?_
    refine lv_istore_n (lv' := [(3, .int (M 9 (Int32.toNatClampNeg x2))), (0, .ref (a 0)), (1, .int x1), (2, .int x2)]) hx hb dX9_median_13 rfl hl (by decide) rfl (fun ls hl => ?_)
    refine lv_iload_n hx hb dX9_median_14 rfl (lv_at hl 3 rfl) ?_
    refine lv_istore (lv' := [(4, .int x2), (3, .int (M 9 (Int32.toNatClampNeg x2))), (0, .ref (a 0)), (1, .int x1), (2, .int x2)]) hx hb dX9_median_15 hl (by decide) rfl (fun ls hl => ?_)
    exact tX9_median_17 C K2 hK2 fu x1 x2 (M 9 (Int32.toNatClampNeg x2)) x2 M _ _ _ hf hst (lv_sub hl [2, 3, 4, 1, 0] rfl)
theorem tX9_median_2 {p : Program} {l : Launch} {e : Env} {s : State} {m : MethodId} {args : Array Value} {below : List Frame} {meth : Method} {c : Code} {D : va_G} {cI cZ : ClassId} {a : Nat → Nat} {A : Nat → Prop} {r : Int32} {M' : Mem} (C : Cx p s m args meth c cX9_median 5 RX9 (some .int) D cI cZ A)  : ∀ (n : Nat) (x1 x2 : Int32) (M : Mem) (H : Heap) (locs : List Loc) (ls : Array Slot), lX9_median_2 n x1 x2 M = some (r, M') → St D (wM cI cZ a) A s.heap H locs M → lv_has ls 5 [(0, .ref (a 0)), (1, .int x1), (2, .int x2)] → Wi p l e { frames := 0, cells := 0, slots := 0, locals := 0 } s m args below meth c D (wM cI cZ a) A r M' H locs (F0 m 2 ls []) := by
  intro n
  induction n with
  | zero =>
    intro x1 x2 M H locs ls hf
    exact nomatch (show (none : Res) = some (r, M') from hf)
  | succ n ih =>
    intro x1 x2 M H locs ls hf hst hl
    exact kX9_median_2 C (lX9_median_2 n) ih x1 x2 M H locs ls hf hst hl

set_option maxHeartbeats 4000000 in
set_option maxRecDepth 100000 in
theorem kX9_median_0 {p : Program} {l : Launch} {e : Env} {s : State} {m : MethodId} {args : Array Value} {below : List Frame} {meth : Method} {c : Code} {D : va_G} {cI cZ : ClassId} {a : Nat → Nat} {A : Nat → Prop} {r : Int32} {M' : Mem} (C : Cx p s m args meth c cX9_median 5 RX9 (some .int) D cI cZ A)  (x1 : Int32) (M : Mem) (H : Heap) (locs : List Loc) (ls : Array Slot) (hf : fX9_median x1 M = some (r, M')) (hst : St D (wM cI cZ a) A s.heap H locs M) (hl : lv_has ls 5 [(0, .ref (a 0)), (1, .int x1)]) : Wi p l e { frames := 0, cells := 0, slots := 0, locals := 0 } s m args below meth c D (wM cI cZ a) A r M' H locs (F0 m 0 ls []) := by
  unfold fX9_median at hf
  obtain ⟨hx, hb, hml, hown, hU, hr, hlk, hK, hA⟩ := id C
  refine lv_iconst (v := 1) hx hb dX9_median_0 (by decide) ?_
  refine lv_istore_n (lv' := [(2, .int (1 : Int32)), (0, .ref (a 0)), (1, .int x1)]) hx hb dX9_median_1 rfl hl (by decide) rfl (fun ls hl => ?_)
  exact tX9_median_2 C  fu x1 (1 : Int32) M _ _ _ hf hst (lv_sub hl [1, 2, 0] rfl)
set_option maxRecDepth 100000 in
theorem mX9_median (l : Launch) (D : va_G) (cI cZ : ClassId) (a : Nat → Nat) (x1 : Int32) (M : Mem) (r : Int32) (M' : Mem) (hf : fX9_median x1 M = some (r, M')) : MI l D cI cZ (wM cI cZ a) yX9_median cX9_median 5 (some .int) 0 0 [.ref (a 0), .int x1] M r M' :=
  MI.of (by decide) (Nat.le_of_ble_eq_true rfl) (fun p e s m args below meth c A C hst ls hl => kX9_median_0 C x1 M s.heap [] ls hf hst hl)

def gX9_hasSeason_136 (K83 : Int32 → Int32 → Int32 → Int32 → Mem → Res) (x1 x2 x3 x4 z1 z2 : Int32) (M : Mem) : Res :=
  if z1 < 0 ∨ 7 ≤ Int32.toNatClampNeg z1 then none else K83 x1 x2 x3 (x4 + 1) (upM M 9 (Int32.toNatClampNeg z1) z2)
def gX9_hasSeason_83 (K83 : Int32 → Int32 → Int32 → Int32 → Mem → Res) (x1 x2 x3 x4 : Int32) (M : Mem) : Res :=
  (if x3 ≤ x4 then obi (fX9_median x3 M) (fun r_146 M_146 => some ((1 : Int32), (upM M_146 0 15 r_146))) else if x4 < 0 ∨ 7 ≤ Int32.toNatClampNeg x4 then none else (if (M 10 (Int32.toNatClampNeg x4)) ≤ (M 0 14) then gX9_hasSeason_136 K83 x1 x2 x3 x4 x4 ((M 0 14) - (M 10 (Int32.toNatClampNeg x4))) M else gX9_hasSeason_136 K83 x1 x2 x3 x4 x4 ((M 10 (Int32.toNatClampNeg x4)) - (M 0 14)) M))
def lX9_hasSeason_83 : Nat → Int32 → Int32 → Int32 → Int32 → Mem → Res
  | 0, _, _, _, _, _ => none
  | n + 1, x1, x2, x3, x4, M => gX9_hasSeason_83 (lX9_hasSeason_83 n) x1 x2 x3 x4 M
def gX9_hasSeason_58 (K5 : Int32 → Int32 → Int32 → Int32 → Mem → Res) (x1 x2 x3 x4 : Int32) (M : Mem) : Res :=
  K5 x1 x2 x3 (x4 + 1) M
def gX9_hasSeason_5 (K5 : Int32 → Int32 → Int32 → Int32 → Mem → Res) (x1 x2 x3 x4 : Int32) (M : Mem) : Res :=
  (if (8 : Int32) ≤ x4 then (if (3 : Int32) ≤ x3 then obi (fX9_median x3 M) (fun r_74 M_74 => lX9_hasSeason_83  fu x1 x2 x3 (0 : Int32) (upM M_74 0 14 r_74)) else some ((0 : Int32), M)) else (if 0 ≤ (x2 - ((24 : Int32) * x4)) then obi (fX9_costOf x1 (x2 - ((24 : Int32) * x4)) M) (fun r_39 M_39 => if x3 < 0 ∨ 7 ≤ Int32.toNatClampNeg x3 then none else gX9_hasSeason_58 K5 x1 x2 (x3 + 1) x4 (upM (upM M_39 10 (Int32.toNatClampNeg x3) r_39) 9 (Int32.toNatClampNeg x3) ((upM M_39 10 (Int32.toNatClampNeg x3) r_39) 10 (Int32.toNatClampNeg x3)))) else gX9_hasSeason_58 K5 x1 x2 x3 x4 M))
def lX9_hasSeason_5 : Nat → Int32 → Int32 → Int32 → Int32 → Mem → Res
  | 0, _, _, _, _, _ => none
  | n + 1, x1, x2, x3, x4, M => gX9_hasSeason_5 (lX9_hasSeason_5 n) x1 x2 x3 x4 M
def fX9_hasSeason (x1 x2 : Int32) (M : Mem) : Res :=
  lX9_hasSeason_5  fu x1 x2 (0 : Int32) (1 : Int32) M
theorem calX9_hasSeason : Cal yX9_hasSeason cX9_hasSeason 5 (some .boolean) 2 := ⟨(mU3 193 rfl rfl), (mU1 10 rfl rfl), by decide +kernel⟩
theorem cavX9_hasSeason : CalV yX9_hasSeason := ⟨(mU3 192 rfl rfl), (mS2 0 rfl)⟩
set_option maxHeartbeats 4000000 in
set_option maxRecDepth 100000 in
theorem kX9_hasSeason_136 {p : Program} {l : Launch} {e : Env} {s : State} {m : MethodId} {args : Array Value} {below : List Frame} {meth : Method} {c : Code} {D : va_G} {cI cZ : ClassId} {a : Nat → Nat} {A : Nat → Prop} {r : Int32} {M' : Mem} (C : Cx p s m args meth c cX9_hasSeason 5 RX9 (some .boolean) D cI cZ A) (K83 : Int32 → Int32 → Int32 → Int32 → Mem → Res) (hK83 : ∀ (x1 x2 x3 x4 : Int32) (M : Mem) (H : Heap) (locs : List Loc) (ls : Array Slot), K83 x1 x2 x3 x4 M = some (r, M') → St D (wM cI cZ a) A s.heap H locs M → lv_has ls 5 [(0, .ref (a 0)), (1, .int x1), (2, .int x2), (3, .int x3), (4, .int x4)] → Wi p l e { frames := 2, cells := 0, slots := 0, locals := 46 } s m args below meth c D (wM cI cZ a) A r M' H locs (F0 m 83 ls [])) (x1 x2 x3 x4 z1 z2 : Int32) (M : Mem) (H : Heap) (locs : List Loc) (ls : Array Slot) (hf : gX9_hasSeason_136 K83 x1 x2 x3 x4 z1 z2 M = some (r, M')) (hst : St D (wM cI cZ a) A s.heap H locs M) (hl : lv_has ls 5 [(0, .ref (a 0)), (1, .int x1), (2, .int x2), (3, .int x3), (4, .int x4)]) : Wi p l e { frames := 2, cells := 0, slots := 0, locals := 46 } s m args below meth c D (wM cI cZ a) A r M' H locs (F0 m 136 ls [.int z2, .int z1, .ref (a 9)]) := by
  unfold gX9_hasSeason_136 at hf
  obtain ⟨hx, hb, hml, hown, hU, hr, hlk, hK, hA⟩ := id C
  obtain ⟨h_136, hf⟩ := og hf
  refine w_iast (N := 7) (f := M 9) (M' := (upM M 9 (Int32.toNatClampNeg z1) z2)) C hst 9 rfl (wM_set9 cI cZ a M (Int32.toNatClampNeg z1) z2) h_136 dX9_hasSeason_136 (fun H locs hst => ?_)
  refine lv_iinc (v := (x4 + 1)) (lv' := [(4, .int (x4 + 1)), (0, .ref (a 0)), (1, .int x1), (2, .int x2), (3, .int x3)]) hx hb dX9_hasSeason_137 hl (k := 4) rfl rfl (by decide) rfl (fun ls hl => ?_)
  refine lv_goto (tgt := 83) hx hb dX9_hasSeason_140 (by decide) ?_
  exact hK83 x1 x2 x3 (x4 + 1) (upM M 9 (Int32.toNatClampNeg z1) z2) _ _ _ hf hst (lv_sub hl [1, 2, 3, 4, 0] rfl)
set_option maxHeartbeats 4000000 in
set_option maxRecDepth 100000 in
theorem kX9_hasSeason_83 {p : Program} {l : Launch} {e : Env} {s : State} {m : MethodId} {args : Array Value} {below : List Frame} {meth : Method} {c : Code} {D : va_G} {cI cZ : ClassId} {a : Nat → Nat} {A : Nat → Prop} {r : Int32} {M' : Mem} (C : Cx p s m args meth c cX9_hasSeason 5 RX9 (some .boolean) D cI cZ A) (K83 : Int32 → Int32 → Int32 → Int32 → Mem → Res) (hK83 : ∀ (x1 x2 x3 x4 : Int32) (M : Mem) (H : Heap) (locs : List Loc) (ls : Array Slot), K83 x1 x2 x3 x4 M = some (r, M') → St D (wM cI cZ a) A s.heap H locs M → lv_has ls 5 [(0, .ref (a 0)), (1, .int x1), (2, .int x2), (3, .int x3), (4, .int x4)] → Wi p l e { frames := 2, cells := 0, slots := 0, locals := 46 } s m args below meth c D (wM cI cZ a) A r M' H locs (F0 m 83 ls [])) (x1 x2 x3 x4 : Int32) (M : Mem) (H : Heap) (locs : List Loc) (ls : Array Slot) (hf : gX9_hasSeason_83 K83 x1 x2 x3 x4 M = some (r, M')) (hst : St D (wM cI cZ a) A s.heap H locs M) (hl : lv_has ls 5 [(0, .ref (a 0)), (1, .int x1), (2, .int x2), (3, .int x3), (4, .int x4)]) : Wi p l e { frames := 2, cells := 0, slots := 0, locals := 46 } s m args below meth c D (wM cI cZ a) A r M' H locs (F0 m 83 ls []) := by
  unfold gX9_hasSeason_83 at hf
  obtain ⟨hx, hb, hml, hown, hU, hr, hlk, hK, hA⟩ := id C
  refine lv_iload hx hb dX9_hasSeason_83 (lv_at hl 4 rfl) ?_
  refine lv_iload_n hx hb dX9_hasSeason_85 rfl (lv_at hl 3 rfl) ?_
  refine lv_icmp_ge (tgt := 143) hx hb dX9_hasSeason_86 (by decide) (fun c_86 => ?_) (fun c_86 => ?_)
  · have hf := ifp c_86 hf
    refine lv_aload_n hx hb dX9_hasSeason_143 rfl (lv_at hl 0 rfl) ?_
    refine lv_aload_n hx hb dX9_hasSeason_144 rfl (lv_at hl 0 rfl) ?_
    refine lv_iload_n hx hb dX9_hasSeason_145 rfl (lv_at hl 3 rfl) ?_
    obtain ⟨r_146, M_146, hc_146, hf⟩ := obi_some hf
    refine w_cVi (As := [.int x3]) (rest := [.ref (a 0)]) C (wM_ad cI cZ a) (mX9_median l D cI cZ a x3 M r_146 M_146 hc_146) calX9_median cavX9_median (mU3 194 rfl rfl) hst hl.1 0 9 rfl rfl rfl rfl (Nat.le_of_ble_eq_true rfl) ⟨Nat.le_of_ble_eq_true rfl, Nat.le_of_ble_eq_true rfl⟩ dX9_hasSeason_146 (fun H locs hst => ?_)
    refine pf_X9_108 C hst dX9_hasSeason_149 (fun H locs hst => ?_)
    refine lv_iconst (v := 1) hx hb dX9_hasSeason_152 (by decide) ?_
    obtain ⟨e1, e2⟩ := sinj hf
    subst e1
    subst e2
    exact w_zret C rfl hst dX9_hasSeason_153
  · have hf := ifn c_86 hf
    refine lv_aload_n hx hb dX9_hasSeason_89 rfl (lv_at hl 0 rfl) ?_
    refine gf_X9_39 C hst dX9_hasSeason_90 ?_
    refine lv_iload hx hb dX9_hasSeason_93 (lv_at hl 4 rfl) ?_
    refine lv_aload_n hx hb dX9_hasSeason_95 rfl (lv_at hl 0 rfl) ?_
    refine gf_X9_42 C hst dX9_hasSeason_96 ?_
    refine lv_iload hx hb dX9_hasSeason_99 (lv_at hl 4 rfl) ?_
    obtain ⟨h_101, hf⟩ := og hf
    refine w_iald (N := 7) (f := M 10) C hst 10 rfl h_101 dX9_hasSeason_101 ?_
    refine lv_aload_n hx hb dX9_hasSeason_102 rfl (lv_at hl 0 rfl) ?_
    refine gf_X9_105 C hst dX9_hasSeason_103 ?_
    refine lv_icmp_le (tgt := 124) hx hb dX9_hasSeason_106 (by decide) (fun c_106 => ?_) (fun c_106 => ?_)
    · have hf := ifp c_106 hf
      refine lv_aload_n hx hb dX9_hasSeason_124 rfl (lv_at hl 0 rfl) ?_
      refine gf_X9_105 C hst dX9_hasSeason_125 ?_
      refine lv_aload_n hx hb dX9_hasSeason_128 rfl (lv_at hl 0 rfl) ?_
      refine gf_X9_42 C hst dX9_hasSeason_129 ?_
      refine lv_iload hx hb dX9_hasSeason_132 (lv_at hl 4 rfl) ?_
      refine w_iald (N := 7) (f := M 10) C hst 10 rfl h_101 dX9_hasSeason_134 ?_
      refine lv_isub hx hb dX9_hasSeason_135 ?_
      exact kX9_hasSeason_136 C K83 hK83 x1 x2 x3 x4 x4 ((M 0 14) - (M 10 (Int32.toNatClampNeg x4))) M _ _ _ hf hst (lv_sub hl [0, 1, 2, 3, 4] rfl)
    · have hf := ifn c_106 hf
      refine lv_aload_n hx hb dX9_hasSeason_109 rfl (lv_at hl 0 rfl) ?_
      refine gf_X9_42 C hst dX9_hasSeason_110 ?_
      refine lv_iload hx hb dX9_hasSeason_113 (lv_at hl 4 rfl) ?_
      refine w_iald (N := 7) (f := M 10) C hst 10 rfl h_101 dX9_hasSeason_115 ?_
      refine lv_aload_n hx hb dX9_hasSeason_116 rfl (lv_at hl 0 rfl) ?_
      refine gf_X9_105 C hst dX9_hasSeason_117 ?_
      refine lv_isub hx hb dX9_hasSeason_120 ?_
      refine lv_goto (tgt := 136) hx hb dX9_hasSeason_121 (by decide) ?_
      exact kX9_hasSeason_136 C K83 hK83 x1 x2 x3 x4 x4 ((M 10 (Int32.toNatClampNeg x4)) - (M 0 14)) M _ _ _ hf hst (lv_sub hl [0, 1, 2, 3, 4] rfl)
theorem tX9_hasSeason_83 {p : Program} {l : Launch} {e : Env} {s : State} {m : MethodId} {args : Array Value} {below : List Frame} {meth : Method} {c : Code} {D : va_G} {cI cZ : ClassId} {a : Nat → Nat} {A : Nat → Prop} {r : Int32} {M' : Mem} (C : Cx p s m args meth c cX9_hasSeason 5 RX9 (some .boolean) D cI cZ A)  : ∀ (n : Nat) (x1 x2 x3 x4 : Int32) (M : Mem) (H : Heap) (locs : List Loc) (ls : Array Slot), lX9_hasSeason_83 n x1 x2 x3 x4 M = some (r, M') → St D (wM cI cZ a) A s.heap H locs M → lv_has ls 5 [(0, .ref (a 0)), (1, .int x1), (2, .int x2), (3, .int x3), (4, .int x4)] → Wi p l e { frames := 2, cells := 0, slots := 0, locals := 46 } s m args below meth c D (wM cI cZ a) A r M' H locs (F0 m 83 ls []) := by
  intro n
  induction n with
  | zero =>
    intro x1 x2 x3 x4 M H locs ls hf
    exact nomatch (show (none : Res) = some (r, M') from hf)
  | succ n ih =>
    intro x1 x2 x3 x4 M H locs ls hf hst hl
    exact kX9_hasSeason_83 C (lX9_hasSeason_83 n) ih x1 x2 x3 x4 M H locs ls hf hst hl

set_option maxHeartbeats 4000000 in
set_option maxRecDepth 100000 in
theorem kX9_hasSeason_58 {p : Program} {l : Launch} {e : Env} {s : State} {m : MethodId} {args : Array Value} {below : List Frame} {meth : Method} {c : Code} {D : va_G} {cI cZ : ClassId} {a : Nat → Nat} {A : Nat → Prop} {r : Int32} {M' : Mem} (C : Cx p s m args meth c cX9_hasSeason 5 RX9 (some .boolean) D cI cZ A) (K5 : Int32 → Int32 → Int32 → Int32 → Mem → Res) (hK5 : ∀ (x1 x2 x3 x4 : Int32) (M : Mem) (H : Heap) (locs : List Loc) (ls : Array Slot), K5 x1 x2 x3 x4 M = some (r, M') → St D (wM cI cZ a) A s.heap H locs M → lv_has ls 5 [(0, .ref (a 0)), (1, .int x1), (2, .int x2), (3, .int x3), (4, .int x4)] → Wi p l e { frames := 2, cells := 0, slots := 0, locals := 46 } s m args below meth c D (wM cI cZ a) A r M' H locs (F0 m 5 ls [])) (x1 x2 x3 x4 : Int32) (M : Mem) (H : Heap) (locs : List Loc) (ls : Array Slot) (hf : gX9_hasSeason_58 K5 x1 x2 x3 x4 M = some (r, M')) (hst : St D (wM cI cZ a) A s.heap H locs M) (hl : lv_has ls 5 [(0, .ref (a 0)), (1, .int x1), (2, .int x2), (3, .int x3), (4, .int x4)]) : Wi p l e { frames := 2, cells := 0, slots := 0, locals := 46 } s m args below meth c D (wM cI cZ a) A r M' H locs (F0 m 58 ls []) := by
  unfold gX9_hasSeason_58 at hf
  obtain ⟨hx, hb, hml, hown, hU, hr, hlk, hK, hA⟩ := id C
  refine lv_iinc (v := (x4 + 1)) (lv' := [(4, .int (x4 + 1)), (0, .ref (a 0)), (1, .int x1), (2, .int x2), (3, .int x3)]) hx hb dX9_hasSeason_58 hl (k := 4) rfl rfl (by decide) rfl (fun ls hl => ?_)
  refine lv_goto (tgt := 5) hx hb dX9_hasSeason_61 (by decide) ?_
  exact hK5 x1 x2 x3 (x4 + 1) M _ _ _ hf hst (lv_sub hl [1, 2, 3, 4, 0] rfl)
set_option maxHeartbeats 4000000 in
set_option maxRecDepth 100000 in
theorem kX9_hasSeason_5 {p : Program} {l : Launch} {e : Env} {s : State} {m : MethodId} {args : Array Value} {below : List Frame} {meth : Method} {c : Code} {D : va_G} {cI cZ : ClassId} {a : Nat → Nat} {A : Nat → Prop} {r : Int32} {M' : Mem} (C : Cx p s m args meth c cX9_hasSeason 5 RX9 (some .boolean) D cI cZ A) (K5 : Int32 → Int32 → Int32 → Int32 → Mem → Res) (hK5 : ∀ (x1 x2 x3 x4 : Int32) (M : Mem) (H : Heap) (locs : List Loc) (ls : Array Slot), K5 x1 x2 x3 x4 M = some (r, M') → St D (wM cI cZ a) A s.heap H locs M → lv_has ls 5 [(0, .ref (a 0)), (1, .int x1), (2, .int x2), (3, .int x3), (4, .int x4)] → Wi p l e { frames := 2, cells := 0, slots := 0, locals := 46 } s m args below meth c D (wM cI cZ a) A r M' H locs (F0 m 5 ls [])) (x1 x2 x3 x4 : Int32) (M : Mem) (H : Heap) (locs : List Loc) (ls : Array Slot) (hf : gX9_hasSeason_5 K5 x1 x2 x3 x4 M = some (r, M')) (hst : St D (wM cI cZ a) A s.heap H locs M) (hl : lv_has ls 5 [(0, .ref (a 0)), (1, .int x1), (2, .int x2), (3, .int x3), (4, .int x4)]) : Wi p l e { frames := 2, cells := 0, slots := 0, locals := 46 } s m args below meth c D (wM cI cZ a) A r M' H locs (F0 m 5 ls []) := by
  unfold gX9_hasSeason_5 at hf
  obtain ⟨hx, hb, hml, hown, hU, hr, hlk, hK, hA⟩ := id C
  refine lv_iload hx hb dX9_hasSeason_5 (lv_at hl 4 rfl) ?_
  refine lv_bipush (v := 8) hx hb dX9_hasSeason_7 (by decide) ?_
  refine lv_icmp_ge (tgt := 64) hx hb dX9_hasSeason_9 (by decide) (fun c_9 => ?_) (fun c_9 => ?_)
  · have hf := ifp c_9 hf
    refine lv_iload_n hx hb dX9_hasSeason_64 rfl (lv_at hl 3 rfl) ?_
    refine lv_iconst (v := 3) hx hb dX9_hasSeason_65 (by decide) ?_
    refine lv_icmp_ge (tgt := 71) hx hb dX9_hasSeason_66 (by decide) (fun c_66 => ?_) (fun c_66 => ?_)
    · have hf := ifp c_66 hf
      refine lv_aload_n hx hb dX9_hasSeason_71 rfl (lv_at hl 0 rfl) ?_
      refine lv_aload_n hx hb dX9_hasSeason_72 rfl (lv_at hl 0 rfl) ?_
      refine lv_iload_n hx hb dX9_hasSeason_73 rfl (lv_at hl 3 rfl) ?_
      obtain ⟨r_74, M_74, hc_74, hf⟩ := obi_some hf
      refine w_cVi (As := [.int x3]) (rest := [.ref (a 0)]) C (wM_ad cI cZ a) (mX9_median l D cI cZ a x3 M r_74 M_74 hc_74) calX9_median cavX9_median (mU3 194 rfl rfl) hst hl.1 0 9 rfl rfl rfl rfl (Nat.le_of_ble_eq_true rfl) ⟨Nat.le_of_ble_eq_true rfl, Nat.le_of_ble_eq_true rfl⟩ dX9_hasSeason_74 (fun H locs hst => ?_)
      refine pf_X9_105 C hst dX9_hasSeason_77 (fun H locs hst => ?_)
      refine lv_iconst (v := 0) hx hb dX9_hasSeason_80 (by decide) ?_
      refine lv_istore (lv' := [(4, .int (0 : Int32)), (0, .ref (a 0)), (1, .int x1), (2, .int x2), (3, .int x3)]) hx hb dX9_hasSeason_81 hl (by decide) rfl (fun ls hl => ?_)
      exact tX9_hasSeason_83 C  fu x1 x2 x3 (0 : Int32) (upM M_74 0 14 r_74) _ _ _ hf hst (lv_sub hl [1, 2, 3, 4, 0] rfl)
    · have hf := ifn c_66 hf
      refine lv_iconst (v := 0) hx hb dX9_hasSeason_69 (by decide) ?_
      obtain ⟨e1, e2⟩ := sinj hf
      subst e1
      subst e2
      exact w_zret C rfl hst dX9_hasSeason_70
  · have hf := ifn c_9 hf
    refine lv_iload_n hx hb dX9_hasSeason_12 rfl (lv_at hl 2 rfl) ?_
    refine lv_bipush (v := 24) hx hb dX9_hasSeason_13 (by decide) ?_
    refine lv_iload hx hb dX9_hasSeason_15 (lv_at hl 4 rfl) ?_
    refine lv_imul hx hb dX9_hasSeason_17 ?_
    refine lv_isub hx hb dX9_hasSeason_18 ?_
    refine lv_if_ge (tgt := 25) hx hb dX9_hasSeason_19 (by decide) (fun c_19 => ?_) (fun c_19 => ?_)
    · have hf := ifp c_19 hf
      refine lv_aload_n hx hb dX9_hasSeason_25 rfl (lv_at hl 0 rfl) ?_
      refine gf_X9_42 C hst dX9_hasSeason_26 ?_
      refine lv_iload_n hx hb dX9_hasSeason_29 rfl (lv_at hl 3 rfl) ?_
      refine lv_aload_n hx hb dX9_hasSeason_30 rfl (lv_at hl 0 rfl) ?_
      refine lv_iload_n hx hb dX9_hasSeason_31 rfl (lv_at hl 1 rfl) ?_
      refine lv_iload_n hx hb dX9_hasSeason_32 rfl (lv_at hl 2 rfl) ?_
      refine lv_bipush (v := 24) hx hb dX9_hasSeason_33 (by decide) ?_
      refine lv_iload hx hb dX9_hasSeason_35 (lv_at hl 4 rfl) ?_
      refine lv_imul hx hb dX9_hasSeason_37 ?_
      refine lv_isub hx hb dX9_hasSeason_38 ?_
      obtain ⟨r_39, M_39, hc_39, hf⟩ := obi_some hf
      refine w_cVi (As := [.int x1, .int (x2 - ((24 : Int32) * x4))]) (rest := [.int x3, .ref (a 10)]) C (wM_ad cI cZ a) (mX9_costOf l D cI cZ a x1 (x2 - ((24 : Int32) * x4)) M r_39 M_39 hc_39) calX9_costOf cavX9_costOf (mU3 174 rfl rfl) hst hl.1 0 9 rfl rfl rfl rfl (Nat.le_of_ble_eq_true rfl) ⟨Nat.le_of_ble_eq_true rfl, Nat.le_of_ble_eq_true rfl⟩ dX9_hasSeason_39 (fun H locs hst => ?_)
      obtain ⟨h_42, hf⟩ := og hf
      refine w_iast (N := 7) (f := M_39 10) (M' := (upM M_39 10 (Int32.toNatClampNeg x3) r_39)) C hst 10 rfl (wM_set10 cI cZ a M_39 (Int32.toNatClampNeg x3) r_39) h_42 dX9_hasSeason_42 (fun H locs hst => ?_)
      refine lv_aload_n hx hb dX9_hasSeason_43 rfl (lv_at hl 0 rfl) ?_
      refine gf_X9_39 C hst dX9_hasSeason_44 ?_
      refine lv_iload_n hx hb dX9_hasSeason_47 rfl (lv_at hl 3 rfl) ?_
      refine lv_aload_n hx hb dX9_hasSeason_48 rfl (lv_at hl 0 rfl) ?_
      refine gf_X9_42 C hst dX9_hasSeason_49 ?_
      refine lv_iload_n hx hb dX9_hasSeason_52 rfl (lv_at hl 3 rfl) ?_
      refine w_iald (N := 7) (f := (upM M_39 10 (Int32.toNatClampNeg x3) r_39) 10) C hst 10 rfl h_42 dX9_hasSeason_53 ?_
      refine w_iast (N := 7) (f := (upM M_39 10 (Int32.toNatClampNeg x3) r_39) 9) (M' := (upM (upM M_39 10 (Int32.toNatClampNeg x3) r_39) 9 (Int32.toNatClampNeg x3) ((upM M_39 10 (Int32.toNatClampNeg x3) r_39) 10 (Int32.toNatClampNeg x3)))) C hst 9 rfl (wM_set9 cI cZ a (upM M_39 10 (Int32.toNatClampNeg x3) r_39) (Int32.toNatClampNeg x3) ((upM M_39 10 (Int32.toNatClampNeg x3) r_39) 10 (Int32.toNatClampNeg x3))) h_42 dX9_hasSeason_54 (fun H locs hst => ?_)
      refine lv_iinc (v := (x3 + 1)) (lv' := [(3, .int (x3 + 1)), (0, .ref (a 0)), (1, .int x1), (2, .int x2), (4, .int x4)]) hx hb dX9_hasSeason_55 hl (k := 3) rfl rfl (by decide) rfl (fun ls hl => ?_)
      exact kX9_hasSeason_58 C K5 hK5 x1 x2 (x3 + 1) x4 (upM (upM M_39 10 (Int32.toNatClampNeg x3) r_39) 9 (Int32.toNatClampNeg x3) ((upM M_39 10 (Int32.toNatClampNeg x3) r_39) 10 (Int32.toNatClampNeg x3))) _ _ _ hf hst (lv_sub hl [1, 2, 3, 0, 4] rfl)
    · have hf := ifn c_19 hf
      refine lv_goto (tgt := 58) hx hb dX9_hasSeason_22 (by decide) ?_
      exact kX9_hasSeason_58 C K5 hK5 x1 x2 x3 x4 M _ _ _ hf hst (lv_sub hl [0, 1, 2, 3, 4] rfl)
theorem tX9_hasSeason_5 {p : Program} {l : Launch} {e : Env} {s : State} {m : MethodId} {args : Array Value} {below : List Frame} {meth : Method} {c : Code} {D : va_G} {cI cZ : ClassId} {a : Nat → Nat} {A : Nat → Prop} {r : Int32} {M' : Mem} (C : Cx p s m args meth c cX9_hasSeason 5 RX9 (some .boolean) D cI cZ A)  : ∀ (n : Nat) (x1 x2 x3 x4 : Int32) (M : Mem) (H : Heap) (locs : List Loc) (ls : Array Slot), lX9_hasSeason_5 n x1 x2 x3 x4 M = some (r, M') → St D (wM cI cZ a) A s.heap H locs M → lv_has ls 5 [(0, .ref (a 0)), (1, .int x1), (2, .int x2), (3, .int x3), (4, .int x4)] → Wi p l e { frames := 2, cells := 0, slots := 0, locals := 46 } s m args below meth c D (wM cI cZ a) A r M' H locs (F0 m 5 ls []) := by
  intro n
  induction n with
  | zero =>
    intro x1 x2 x3 x4 M H locs ls hf
    exact nomatch (show (none : Res) = some (r, M') from hf)
  | succ n ih =>
    intro x1 x2 x3 x4 M H locs ls hf hst hl
    exact kX9_hasSeason_5 C (lX9_hasSeason_5 n) ih x1 x2 x3 x4 M H locs ls hf hst hl

set_option maxHeartbeats 4000000 in
set_option maxRecDepth 100000 in
theorem kX9_hasSeason_0 {p : Program} {l : Launch} {e : Env} {s : State} {m : MethodId} {args : Array Value} {below : List Frame} {meth : Method} {c : Code} {D : va_G} {cI cZ : ClassId} {a : Nat → Nat} {A : Nat → Prop} {r : Int32} {M' : Mem} (C : Cx p s m args meth c cX9_hasSeason 5 RX9 (some .boolean) D cI cZ A)  (x1 x2 : Int32) (M : Mem) (H : Heap) (locs : List Loc) (ls : Array Slot) (hf : fX9_hasSeason x1 x2 M = some (r, M')) (hst : St D (wM cI cZ a) A s.heap H locs M) (hl : lv_has ls 5 [(0, .ref (a 0)), (1, .int x1), (2, .int x2)]) : Wi p l e { frames := 2, cells := 0, slots := 0, locals := 46 } s m args below meth c D (wM cI cZ a) A r M' H locs (F0 m 0 ls []) := by
  unfold fX9_hasSeason at hf
  obtain ⟨hx, hb, hml, hown, hU, hr, hlk, hK, hA⟩ := id C
  refine lv_iconst (v := 0) hx hb dX9_hasSeason_0 (by decide) ?_
  refine lv_istore_n (lv' := [(3, .int (0 : Int32)), (0, .ref (a 0)), (1, .int x1), (2, .int x2)]) hx hb dX9_hasSeason_1 rfl hl (by decide) rfl (fun ls hl => ?_)
  refine lv_iconst (v := 1) hx hb dX9_hasSeason_2 (by decide) ?_
  refine lv_istore (lv' := [(4, .int (1 : Int32)), (3, .int (0 : Int32)), (0, .ref (a 0)), (1, .int x1), (2, .int x2)]) hx hb dX9_hasSeason_3 hl (by decide) rfl (fun ls hl => ?_)
  exact tX9_hasSeason_5 C  fu x1 x2 (0 : Int32) (1 : Int32) M _ _ _ hf hst (lv_sub hl [2, 3, 4, 1, 0] rfl)
set_option maxRecDepth 100000 in
theorem mX9_hasSeason (l : Launch) (D : va_G) (cI cZ : ClassId) (a : Nat → Nat) (x1 x2 : Int32) (M : Mem) (r : Int32) (M' : Mem) (hf : fX9_hasSeason x1 x2 M = some (r, M')) : MI l D cI cZ (wM cI cZ a) yX9_hasSeason cX9_hasSeason 5 (some .boolean) 2 46 [.ref (a 0), .int x1, .int x2] M r M' :=
  MI.of (by decide) (Nat.le_of_ble_eq_true rfl) (fun p e s m args below meth c A C hst ls hl => kX9_hasSeason_0 C x1 x2 M s.heap [] ls hf hst hl)

def fX9_jumps (x1 x2 : Int32) (M : Mem) : Res :=
  obi (fX9_hasSeason x1 x2 M) (fun r_3 M_3 => (if r_3 = 0 then some ((0 : Int32), M_3) else obi (fX9_costOf x1 x2 M_3) (fun r_12 M_12 => (if r_12 ≤ (((M_12 0 14) + ((3 : Int32) * (M_12 0 15))) + (M_12 0 3)) then some ((0 : Int32), M_12) else some ((1 : Int32), M_12)))))
theorem calX9_jumps : Cal yX9_jumps cX9_jumps 3 (some .boolean) 2 := ⟨(mU3 189 rfl rfl), (mU1 10 rfl rfl), by decide +kernel⟩
theorem cavX9_jumps : CalV yX9_jumps := ⟨(mU3 188 rfl rfl), (mS1 15 rfl)⟩
set_option maxHeartbeats 4000000 in
set_option maxRecDepth 100000 in
theorem kX9_jumps_0 {p : Program} {l : Launch} {e : Env} {s : State} {m : MethodId} {args : Array Value} {below : List Frame} {meth : Method} {c : Code} {D : va_G} {cI cZ : ClassId} {a : Nat → Nat} {A : Nat → Prop} {r : Int32} {M' : Mem} (C : Cx p s m args meth c cX9_jumps 3 RX9 (some .boolean) D cI cZ A)  (x1 x2 : Int32) (M : Mem) (H : Heap) (locs : List Loc) (ls : Array Slot) (hf : fX9_jumps x1 x2 M = some (r, M')) (hst : St D (wM cI cZ a) A s.heap H locs M) (hl : lv_has ls 3 [(0, .ref (a 0)), (1, .int x1), (2, .int x2)]) : Wi p l e { frames := 3, cells := 0, slots := 0, locals := 70 } s m args below meth c D (wM cI cZ a) A r M' H locs (F0 m 0 ls []) := by
  unfold fX9_jumps at hf
  obtain ⟨hx, hb, hml, hown, hU, hr, hlk, hK, hA⟩ := id C
  refine lv_aload_n hx hb dX9_jumps_0 rfl (lv_at hl 0 rfl) ?_
  refine lv_iload_n hx hb dX9_jumps_1 rfl (lv_at hl 1 rfl) ?_
  refine lv_iload_n hx hb dX9_jumps_2 rfl (lv_at hl 2 rfl) ?_
  obtain ⟨r_3, M_3, hc_3, hf⟩ := obi_some hf
  refine w_cVi (As := [.int x1, .int x2]) (rest := []) C (wM_ad cI cZ a) (mX9_hasSeason l D cI cZ a x1 x2 M r_3 M_3 hc_3) calX9_hasSeason cavX9_hasSeason (mU3 190 rfl rfl) hst hl.1 0 9 rfl rfl rfl rfl (Nat.le_of_ble_eq_true rfl) ⟨Nat.le_of_ble_eq_true rfl, Nat.le_of_ble_eq_true rfl⟩ dX9_jumps_3 (fun H locs hst => ?_)
  refine lv_if_eq (tgt := 38) hx hb dX9_jumps_6 (by decide) (fun c_6 => ?_) (fun c_6 => ?_)
  · have hf := ifp c_6 hf
    refine lv_iconst (v := 0) hx hb dX9_jumps_38 (by decide) ?_
    obtain ⟨e1, e2⟩ := sinj hf
    subst e1
    subst e2
    exact w_zret C rfl hst dX9_jumps_39
  · have hf := ifn c_6 hf
    refine lv_aload_n hx hb dX9_jumps_9 rfl (lv_at hl 0 rfl) ?_
    refine lv_iload_n hx hb dX9_jumps_10 rfl (lv_at hl 1 rfl) ?_
    refine lv_iload_n hx hb dX9_jumps_11 rfl (lv_at hl 2 rfl) ?_
    obtain ⟨r_12, M_12, hc_12, hf⟩ := obi_some hf
    refine w_cVi (As := [.int x1, .int x2]) (rest := []) C (wM_ad cI cZ a) (mX9_costOf l D cI cZ a x1 x2 M_3 r_12 M_12 hc_12) calX9_costOf cavX9_costOf (mU3 174 rfl rfl) hst hl.1 0 9 rfl rfl rfl rfl (Nat.le_of_ble_eq_true rfl) ⟨Nat.le_of_ble_eq_true rfl, Nat.le_of_ble_eq_true rfl⟩ dX9_jumps_12 (fun H locs hst => ?_)
    refine lv_aload_n hx hb dX9_jumps_15 rfl (lv_at hl 0 rfl) ?_
    refine gf_X9_105 C hst dX9_jumps_16 ?_
    refine lv_iconst (v := 3) hx hb dX9_jumps_19 (by decide) ?_
    refine lv_aload_n hx hb dX9_jumps_20 rfl (lv_at hl 0 rfl) ?_
    refine gf_X9_108 C hst dX9_jumps_21 ?_
    refine lv_imul hx hb dX9_jumps_24 ?_
    refine lv_iadd hx hb dX9_jumps_25 ?_
    refine lv_aload_n hx hb dX9_jumps_26 rfl (lv_at hl 0 rfl) ?_
    refine gf_X9_7 C hst dX9_jumps_27 ?_
    refine lv_iadd hx hb dX9_jumps_30 ?_
    refine lv_icmp_le (tgt := 38) hx hb dX9_jumps_31 (by decide) (fun c_31 => ?_) (fun c_31 => ?_)
    · have hf := ifp c_31 hf
      refine lv_iconst (v := 0) hx hb dX9_jumps_38 (by decide) ?_
      obtain ⟨e1, e2⟩ := sinj hf
      subst e1
      subst e2
      exact w_zret C rfl hst dX9_jumps_39
    · have hf := ifn c_31 hf
      refine lv_iconst (v := 1) hx hb dX9_jumps_34 (by decide) ?_
      refine lv_goto (tgt := 39) hx hb dX9_jumps_35 (by decide) ?_
      obtain ⟨e1, e2⟩ := sinj hf
      subst e1
      subst e2
      exact w_zret C rfl hst dX9_jumps_39
set_option maxRecDepth 100000 in
theorem mX9_jumps (l : Launch) (D : va_G) (cI cZ : ClassId) (a : Nat → Nat) (x1 x2 : Int32) (M : Mem) (r : Int32) (M' : Mem) (hf : fX9_jumps x1 x2 M = some (r, M')) : MI l D cI cZ (wM cI cZ a) yX9_jumps cX9_jumps 3 (some .boolean) 3 70 [.ref (a 0), .int x1, .int x2] M r M' :=
  MI.of (by decide) (Nat.le_of_ble_eq_true rfl) (fun p e s m args below meth c A C hst ls hl => kX9_jumps_0 C x1 x2 M s.heap [] ls hf hst hl)

def fX9_season (x1 x2 x3 : Int32) (M : Mem) : Res :=
  obi (fX9_isService x1 M) (fun r_1 M_1 => (if r_1 = 0 then some ((-1 : Int32), M_1) else obi (fX9_isHour x2 M_1) (fun r_9 M_9 => (if r_9 = 0 then some ((-1 : Int32), M_9) else obi (fX9_isIn x3 (0 : Int32) (2 : Int32) M_9) (fun r_18 M_18 => (if r_18 = 0 then some ((-1 : Int32), M_18) else (if x3 = (2 : Int32) then obi (fX9_jumps x1 x2 M_18) (fun r_34 M_34 => (if r_34 = 0 then some ((0 : Int32), M_34) else some ((1 : Int32), M_34))) else obi (fX9_hasSeason x1 x2 M_18) (fun r_49 M_49 => (if r_49 = 0 then some ((-1 : Int32), M_49) else (if x3 = 0 then some ((M_49 0 14), M_49) else some ((M_49 0 15), M_49)))))))))))
theorem calX9_season : Cal yX9_season cX9_season 4 (some .int) 3 := ⟨(mU3 185 rfl rfl), (mU1 10 rfl rfl), by decide +kernel⟩
theorem cavX9_season : CalV yX9_season := ⟨(mU3 183 rfl rfl), (mU3 184 rfl rfl)⟩
set_option maxHeartbeats 4000000 in
set_option maxRecDepth 100000 in
theorem kX9_season_0 {p : Program} {l : Launch} {e : Env} {s : State} {m : MethodId} {args : Array Value} {below : List Frame} {meth : Method} {c : Code} {D : va_G} {cI cZ : ClassId} {a : Nat → Nat} {A : Nat → Prop} {r : Int32} {M' : Mem} (C : Cx p s m args meth c cX9_season 4 RX9 (some .int) D cI cZ A)  (x1 x2 x3 : Int32) (M : Mem) (H : Heap) (locs : List Loc) (ls : Array Slot) (hf : fX9_season x1 x2 x3 M = some (r, M')) (hst : St D (wM cI cZ a) A s.heap H locs M) (hl : lv_has ls 4 [(0, .ref (a 0)), (1, .int x1), (2, .int x2), (3, .int x3)]) : Wi p l e { frames := 4, cells := 0, slots := 0, locals := 92 } s m args below meth c D (wM cI cZ a) A r M' H locs (F0 m 0 ls []) := by
  unfold fX9_season at hf
  obtain ⟨hx, hb, hml, hown, hU, hr, hlk, hK, hA⟩ := id C
  refine lv_iload_n hx hb dX9_season_0 rfl (lv_at hl 1 rfl) ?_
  obtain ⟨r_1, M_1, hc_1, hf⟩ := obi_some hf
  refine w_cSi (As := [.int x1]) (rest := []) C (wM_ad cI cZ a) (mX9_isService l D cI cZ a x1 M r_1 M_1 hc_1) calX9_isService casX9_isService (mU3 132 rfl rfl) hst hl.1 rfl rfl (Nat.le_of_ble_eq_true rfl) ⟨Nat.le_of_ble_eq_true rfl, Nat.le_of_ble_eq_true rfl⟩ dX9_season_1 (fun H locs hst => ?_)
  refine lv_if_eq (tgt := 24) hx hb dX9_season_4 (by decide) (fun c_4 => ?_) (fun c_4 => ?_)
  · have hf := ifp c_4 hf
    refine lv_iconst (v := -1) hx hb dX9_season_24 (by decide) ?_
    obtain ⟨e1, e2⟩ := sinj hf
    subst e1
    subst e2
    exact w_iret C hst dX9_season_25
  · have hf := ifn c_4 hf
    refine lv_aload_n hx hb dX9_season_7 rfl (lv_at hl 0 rfl) ?_
    refine lv_iload_n hx hb dX9_season_8 rfl (lv_at hl 2 rfl) ?_
    obtain ⟨r_9, M_9, hc_9, hf⟩ := obi_some hf
    refine w_cVi (As := [.int x2]) (rest := []) C (wM_ad cI cZ a) (mX9_isHour l D cI cZ a x2 M_1 r_9 M_9 hc_9) calX9_isHour cavX9_isHour (mU3 170 rfl rfl) hst hl.1 0 9 rfl rfl rfl rfl (Nat.le_of_ble_eq_true rfl) ⟨Nat.le_of_ble_eq_true rfl, Nat.le_of_ble_eq_true rfl⟩ dX9_season_9 (fun H locs hst => ?_)
    refine lv_if_eq (tgt := 24) hx hb dX9_season_12 (by decide) (fun c_12 => ?_) (fun c_12 => ?_)
    · have hf := ifp c_12 hf
      refine lv_iconst (v := -1) hx hb dX9_season_24 (by decide) ?_
      obtain ⟨e1, e2⟩ := sinj hf
      subst e1
      subst e2
      exact w_iret C hst dX9_season_25
    · have hf := ifn c_12 hf
      refine lv_iload_n hx hb dX9_season_15 rfl (lv_at hl 3 rfl) ?_
      refine lv_iconst (v := 0) hx hb dX9_season_16 (by decide) ?_
      refine lv_iconst (v := 2) hx hb dX9_season_17 (by decide) ?_
      obtain ⟨r_18, M_18, hc_18, hf⟩ := obi_some hf
      refine w_cSi (As := [.int x3, .int (0 : Int32), .int (2 : Int32)]) (rest := []) C (wM_ad cI cZ a) (mX9_isIn l D cI cZ a x3 (0 : Int32) (2 : Int32) M_9 r_18 M_18 hc_18) calX9_isIn casX9_isIn (mU3 135 rfl rfl) hst hl.1 rfl rfl (Nat.le_of_ble_eq_true rfl) ⟨Nat.le_of_ble_eq_true rfl, Nat.le_of_ble_eq_true rfl⟩ dX9_season_18 (fun H locs hst => ?_)
      refine lv_if_ne (tgt := 26) hx hb dX9_season_21 (by decide) (fun c_21 => ?_) (fun c_21 => ?_)
      · have hf := ifn c_21 hf
        refine lv_iload_n hx hb dX9_season_26 rfl (lv_at hl 3 rfl) ?_
        refine lv_iconst (v := 2) hx hb dX9_season_27 (by decide) ?_
        refine lv_icmp_ne (tgt := 46) hx hb dX9_season_28 (by decide) (fun c_28 => ?_) (fun c_28 => ?_)
        · have hf := ifn c_28 hf
          refine lv_aload_n hx hb dX9_season_46 rfl (lv_at hl 0 rfl) ?_
          refine lv_iload_n hx hb dX9_season_47 rfl (lv_at hl 1 rfl) ?_
          refine lv_iload_n hx hb dX9_season_48 rfl (lv_at hl 2 rfl) ?_
          obtain ⟨r_49, M_49, hc_49, hf⟩ := obi_some hf
          refine w_cVi (As := [.int x1, .int x2]) (rest := []) C (wM_ad cI cZ a) (mX9_hasSeason l D cI cZ a x1 x2 M_18 r_49 M_49 hc_49) calX9_hasSeason cavX9_hasSeason (mU3 190 rfl rfl) hst hl.1 0 9 rfl rfl rfl rfl (Nat.le_of_ble_eq_true rfl) ⟨Nat.le_of_ble_eq_true rfl, Nat.le_of_ble_eq_true rfl⟩ dX9_season_49 (fun H locs hst => ?_)
          refine lv_if_ne (tgt := 59) hx hb dX9_season_52 (by decide) (fun c_52 => ?_) (fun c_52 => ?_)
          · have hf := ifn c_52 hf
            refine lv_iload_n hx hb dX9_season_59 rfl (lv_at hl 3 rfl) ?_
            refine lv_if_ne (tgt := 70) hx hb dX9_season_60 (by decide) (fun c_60 => ?_) (fun c_60 => ?_)
            · have hf := ifn c_60 hf
              refine lv_aload_n hx hb dX9_season_70 rfl (lv_at hl 0 rfl) ?_
              refine gf_X9_108 C hst dX9_season_71 ?_
              obtain ⟨e1, e2⟩ := sinj hf
              subst e1
              subst e2
              exact w_iret C hst dX9_season_74
            · have hf := ifp c_60 hf
              refine lv_aload_n hx hb dX9_season_63 rfl (lv_at hl 0 rfl) ?_
              refine gf_X9_105 C hst dX9_season_64 ?_
              refine lv_goto (tgt := 74) hx hb dX9_season_67 (by decide) ?_
              obtain ⟨e1, e2⟩ := sinj hf
              subst e1
              subst e2
              exact w_iret C hst dX9_season_74
          · have hf := ifp c_52 hf
            refine lv_iconst (v := -1) hx hb dX9_season_55 (by decide) ?_
            refine lv_goto (tgt := 74) hx hb dX9_season_56 (by decide) ?_
            obtain ⟨e1, e2⟩ := sinj hf
            subst e1
            subst e2
            exact w_iret C hst dX9_season_74
        · have hf := ifp c_28 hf
          refine lv_aload_n hx hb dX9_season_31 rfl (lv_at hl 0 rfl) ?_
          refine lv_iload_n hx hb dX9_season_32 rfl (lv_at hl 1 rfl) ?_
          refine lv_iload_n hx hb dX9_season_33 rfl (lv_at hl 2 rfl) ?_
          obtain ⟨r_34, M_34, hc_34, hf⟩ := obi_some hf
          refine w_cVi (As := [.int x1, .int x2]) (rest := []) C (wM_ad cI cZ a) (mX9_jumps l D cI cZ a x1 x2 M_18 r_34 M_34 hc_34) calX9_jumps cavX9_jumps (mU3 186 rfl rfl) hst hl.1 0 9 rfl rfl rfl rfl (Nat.le_of_ble_eq_true rfl) ⟨Nat.le_of_ble_eq_true rfl, Nat.le_of_ble_eq_true rfl⟩ dX9_season_34 (fun H locs hst => ?_)
          refine lv_if_eq (tgt := 44) hx hb dX9_season_37 (by decide) (fun c_37 => ?_) (fun c_37 => ?_)
          · have hf := ifp c_37 hf
            refine lv_iconst (v := 0) hx hb dX9_season_44 (by decide) ?_
            obtain ⟨e1, e2⟩ := sinj hf
            subst e1
            subst e2
            exact w_iret C hst dX9_season_45
          · have hf := ifn c_37 hf
            refine lv_iconst (v := 1) hx hb dX9_season_40 (by decide) ?_
            refine lv_goto (tgt := 45) hx hb dX9_season_41 (by decide) ?_
            obtain ⟨e1, e2⟩ := sinj hf
            subst e1
            subst e2
            exact w_iret C hst dX9_season_45
      · have hf := ifp c_21 hf
        refine lv_iconst (v := -1) hx hb dX9_season_24 (by decide) ?_
        obtain ⟨e1, e2⟩ := sinj hf
        subst e1
        subst e2
        exact w_iret C hst dX9_season_25
set_option maxRecDepth 100000 in
theorem mX9_season (l : Launch) (D : va_G) (cI cZ : ClassId) (a : Nat → Nat) (x1 x2 x3 : Int32) (M : Mem) (r : Int32) (M' : Mem) (hf : fX9_season x1 x2 x3 M = some (r, M')) : MI l D cI cZ (wM cI cZ a) yX9_season cX9_season 4 (some .int) 4 92 [.ref (a 0), .int x1, .int x2, .int x3] M r M' :=
  MI.of (by decide) (Nat.le_of_ble_eq_true rfl) (fun p e s m args below meth c A C hst ls hl => kX9_season_0 C x1 x2 x3 M s.heap [] ls hf hst hl)

def gX9_dayCost_8 (K8 : Int32 → Int32 → Int32 → Int32 → Mem → Res) (x1 x2 x3 x4 : Int32) (M : Mem) : Res :=
  (if (((24 : Int32) * x2) + (24 : Int32)) ≤ x4 then some (x3, M) else obi (fX9_costOf x1 x4 M) (fun r_25 M_25 => K8 x1 x2 (x3 + r_25) (x4 + 1) M_25))
def lX9_dayCost_8 : Nat → Int32 → Int32 → Int32 → Int32 → Mem → Res
  | 0, _, _, _, _, _ => none
  | n + 1, x1, x2, x3, x4, M => gX9_dayCost_8 (lX9_dayCost_8 n) x1 x2 x3 x4 M
def fX9_dayCost (x1 x2 : Int32) (M : Mem) : Res :=
  lX9_dayCost_8  fu x1 x2 (0 : Int32) ((24 : Int32) * x2) M
theorem calX9_dayCost : Cal yX9_dayCost cX9_dayCost 5 (some .int) 2 := ⟨(mU3 205 rfl rfl), (mU1 10 rfl rfl), by decide +kernel⟩
theorem cavX9_dayCost : CalV yX9_dayCost := ⟨(mU3 204 rfl rfl), (mS2 2 rfl)⟩
set_option maxHeartbeats 4000000 in
set_option maxRecDepth 100000 in
theorem kX9_dayCost_8 {p : Program} {l : Launch} {e : Env} {s : State} {m : MethodId} {args : Array Value} {below : List Frame} {meth : Method} {c : Code} {D : va_G} {cI cZ : ClassId} {a : Nat → Nat} {A : Nat → Prop} {r : Int32} {M' : Mem} (C : Cx p s m args meth c cX9_dayCost 5 RX9 (some .int) D cI cZ A) (K8 : Int32 → Int32 → Int32 → Int32 → Mem → Res) (hK8 : ∀ (x1 x2 x3 x4 : Int32) (M : Mem) (H : Heap) (locs : List Loc) (ls : Array Slot), K8 x1 x2 x3 x4 M = some (r, M') → St D (wM cI cZ a) A s.heap H locs M → lv_has ls 5 [(0, .ref (a 0)), (1, .int x1), (2, .int x2), (3, .int x3), (4, .int x4)] → Wi p l e { frames := 2, cells := 0, slots := 0, locals := 46 } s m args below meth c D (wM cI cZ a) A r M' H locs (F0 m 8 ls [])) (x1 x2 x3 x4 : Int32) (M : Mem) (H : Heap) (locs : List Loc) (ls : Array Slot) (hf : gX9_dayCost_8 K8 x1 x2 x3 x4 M = some (r, M')) (hst : St D (wM cI cZ a) A s.heap H locs M) (hl : lv_has ls 5 [(0, .ref (a 0)), (1, .int x1), (2, .int x2), (3, .int x3), (4, .int x4)]) : Wi p l e { frames := 2, cells := 0, slots := 0, locals := 46 } s m args below meth c D (wM cI cZ a) A r M' H locs (F0 m 8 ls []) := by
  unfold gX9_dayCost_8 at hf
  obtain ⟨hx, hb, hml, hown, hU, hr, hlk, hK, hA⟩ := id C
  refine lv_iload hx hb dX9_dayCost_8 (lv_at hl 4 rfl) ?_
  refine lv_bipush (v := 24) hx hb dX9_dayCost_10 (by decide) ?_
  refine lv_iload_n hx hb dX9_dayCost_12 rfl (lv_at hl 2 rfl) ?_
  refine lv_imul hx hb dX9_dayCost_13 ?_
  refine lv_bipush (v := 24) hx hb dX9_dayCost_14 (by decide) ?_
  refine lv_iadd hx hb dX9_dayCost_16 ?_
  refine lv_icmp_ge (tgt := 36) hx hb dX9_dayCost_17 (by decide) (fun c_17 => ?_) (fun c_17 => ?_)
  · have hf := ifp c_17 hf
    refine lv_iload_n hx hb dX9_dayCost_36 rfl (lv_at hl 3 rfl) ?_
    obtain ⟨e1, e2⟩ := sinj hf
    subst e1
    subst e2
    exact w_iret C hst dX9_dayCost_37
  · have hf := ifn c_17 hf
    refine lv_iload_n hx hb dX9_dayCost_20 rfl (lv_at hl 3 rfl) ?_
    refine lv_aload_n hx hb dX9_dayCost_21 rfl (lv_at hl 0 rfl) ?_
    refine lv_iload_n hx hb dX9_dayCost_22 rfl (lv_at hl 1 rfl) ?_
    refine lv_iload hx hb dX9_dayCost_23 (lv_at hl 4 rfl) ?_
    obtain ⟨r_25, M_25, hc_25, hf⟩ := obi_some hf
    refine w_cVi (As := [.int x1, .int x4]) (rest := [.int x3]) C (wM_ad cI cZ a) (mX9_costOf l D cI cZ a x1 x4 M r_25 M_25 hc_25) calX9_costOf cavX9_costOf (mU3 174 rfl rfl) hst hl.1 0 9 rfl rfl rfl rfl (Nat.le_of_ble_eq_true rfl) ⟨Nat.le_of_ble_eq_true rfl, Nat.le_of_ble_eq_true rfl⟩ dX9_dayCost_25 (fun H locs hst => ?_)
    refine lv_iadd hx hb dX9_dayCost_28 ?_
    refine lv_istore_n (lv' := [(3, .int (x3 + r_25)), (0, .ref (a 0)), (1, .int x1), (2, .int x2), (4, .int x4)]) hx hb dX9_dayCost_29 rfl hl (by decide) rfl (fun ls hl => ?_)
    refine lv_iinc (v := (x4 + 1)) (lv' := [(4, .int (x4 + 1)), (3, .int (x3 + r_25)), (0, .ref (a 0)), (1, .int x1), (2, .int x2)]) hx hb dX9_dayCost_30 hl (k := 4) rfl rfl (by decide) rfl (fun ls hl => ?_)
    refine lv_goto (tgt := 8) hx hb dX9_dayCost_33 (by decide) ?_
    exact hK8 x1 x2 (x3 + r_25) (x4 + 1) M_25 _ _ _ hf hst (lv_sub hl [2, 3, 4, 1, 0] rfl)
theorem tX9_dayCost_8 {p : Program} {l : Launch} {e : Env} {s : State} {m : MethodId} {args : Array Value} {below : List Frame} {meth : Method} {c : Code} {D : va_G} {cI cZ : ClassId} {a : Nat → Nat} {A : Nat → Prop} {r : Int32} {M' : Mem} (C : Cx p s m args meth c cX9_dayCost 5 RX9 (some .int) D cI cZ A)  : ∀ (n : Nat) (x1 x2 x3 x4 : Int32) (M : Mem) (H : Heap) (locs : List Loc) (ls : Array Slot), lX9_dayCost_8 n x1 x2 x3 x4 M = some (r, M') → St D (wM cI cZ a) A s.heap H locs M → lv_has ls 5 [(0, .ref (a 0)), (1, .int x1), (2, .int x2), (3, .int x3), (4, .int x4)] → Wi p l e { frames := 2, cells := 0, slots := 0, locals := 46 } s m args below meth c D (wM cI cZ a) A r M' H locs (F0 m 8 ls []) := by
  intro n
  induction n with
  | zero =>
    intro x1 x2 x3 x4 M H locs ls hf
    exact nomatch (show (none : Res) = some (r, M') from hf)
  | succ n ih =>
    intro x1 x2 x3 x4 M H locs ls hf hst hl
    exact kX9_dayCost_8 C (lX9_dayCost_8 n) ih x1 x2 x3 x4 M H locs ls hf hst hl

set_option maxHeartbeats 4000000 in
set_option maxRecDepth 100000 in
theorem kX9_dayCost_0 {p : Program} {l : Launch} {e : Env} {s : State} {m : MethodId} {args : Array Value} {below : List Frame} {meth : Method} {c : Code} {D : va_G} {cI cZ : ClassId} {a : Nat → Nat} {A : Nat → Prop} {r : Int32} {M' : Mem} (C : Cx p s m args meth c cX9_dayCost 5 RX9 (some .int) D cI cZ A)  (x1 x2 : Int32) (M : Mem) (H : Heap) (locs : List Loc) (ls : Array Slot) (hf : fX9_dayCost x1 x2 M = some (r, M')) (hst : St D (wM cI cZ a) A s.heap H locs M) (hl : lv_has ls 5 [(0, .ref (a 0)), (1, .int x1), (2, .int x2)]) : Wi p l e { frames := 2, cells := 0, slots := 0, locals := 46 } s m args below meth c D (wM cI cZ a) A r M' H locs (F0 m 0 ls []) := by
  unfold fX9_dayCost at hf
  obtain ⟨hx, hb, hml, hown, hU, hr, hlk, hK, hA⟩ := id C
  refine lv_iconst (v := 0) hx hb dX9_dayCost_0 (by decide) ?_
  refine lv_istore_n (lv' := [(3, .int (0 : Int32)), (0, .ref (a 0)), (1, .int x1), (2, .int x2)]) hx hb dX9_dayCost_1 rfl hl (by decide) rfl (fun ls hl => ?_)
  refine lv_bipush (v := 24) hx hb dX9_dayCost_2 (by decide) ?_
  refine lv_iload_n hx hb dX9_dayCost_4 rfl (lv_at hl 3 rfl) ?_
  refine lv_imul hx hb dX9_dayCost_5 ?_
  refine lv_istore (lv' := [(4, .int ((24 : Int32) * x2)), (3, .int (0 : Int32)), (0, .ref (a 0)), (1, .int x1), (2, .int x2)]) hx hb dX9_dayCost_6 hl (by decide) rfl (fun ls hl => ?_)
  exact tX9_dayCost_8 C  fu x1 x2 (0 : Int32) ((24 : Int32) * x2) M _ _ _ hf hst (lv_sub hl [2, 3, 4, 1, 0] rfl)
set_option maxRecDepth 100000 in
theorem mX9_dayCost (l : Launch) (D : va_G) (cI cZ : ClassId) (a : Nat → Nat) (x1 x2 : Int32) (M : Mem) (r : Int32) (M' : Mem) (hf : fX9_dayCost x1 x2 M = some (r, M')) : MI l D cI cZ (wM cI cZ a) yX9_dayCost cX9_dayCost 5 (some .int) 2 46 [.ref (a 0), .int x1, .int x2] M r M' :=
  MI.of (by decide) (Nat.le_of_ble_eq_true rfl) (fun p e s m args below meth c A C hst ls hl => kX9_dayCost_0 C x1 x2 M s.heap [] ls hf hst hl)

def gX9_creeps_123 (K59 : Int32 → Int32 → Int32 → Int32 → Mem → Res) (K72 : Int32 → Int32 → Int32 → Int32 → Int32 → Mem → Res) (x1 x2 x3 x4 x5 z0 z1 : Int32) (M : Mem) : Res :=
  K72 x1 x2 (z0 + z1) x4 (x5 + 1) M
def gX9_creeps_72 (K59 : Int32 → Int32 → Int32 → Int32 → Mem → Res) (K72 : Int32 → Int32 → Int32 → Int32 → Int32 → Mem → Res) (x1 x2 x3 x4 x5 : Int32) (M : Mem) : Res :=
  (if (7 : Int32) ≤ x5 then K59 x1 x2 x3 (x4 + 1) M else if x5 < 0 ∨ 7 ≤ Int32.toNatClampNeg x5 then none else if x4 < 0 ∨ 7 ≤ Int32.toNatClampNeg x4 then none else (if (M 9 (Int32.toNatClampNeg x5)) ≤ (M 9 (Int32.toNatClampNeg x4)) then (if (M 9 (Int32.toNatClampNeg x4)) ≤ (M 9 (Int32.toNatClampNeg x5)) then gX9_creeps_123 K59 K72 x1 x2 x3 x4 x5 x3 (0 : Int32) M else gX9_creeps_123 K59 K72 x1 x2 x3 x4 x5 x3 (-1 : Int32) M) else gX9_creeps_123 K59 K72 x1 x2 x3 x4 x5 x3 (1 : Int32) M))
def lX9_creeps_72 (K59 : Int32 → Int32 → Int32 → Int32 → Mem → Res) : Nat → Int32 → Int32 → Int32 → Int32 → Int32 → Mem → Res
  | 0, _, _, _, _, _, _ => none
  | n + 1, x1, x2, x3, x4, x5, M => gX9_creeps_72 K59 (lX9_creeps_72 K59 n) x1 x2 x3 x4 x5 M
def gX9_creeps_59 (K59 : Int32 → Int32 → Int32 → Int32 → Mem → Res) (x1 x2 x3 x4 : Int32) (M : Mem) : Res :=
  (if (7 : Int32) ≤ x4 then (if x3 < (15 : Int32) then some ((0 : Int32), M) else (if (lg_cmp ((10 : Int64) * (Int32.toInt64 (M 9 (Int32.toNatClampNeg (6 : Int32))))) ((11 : Int64) * (Int32.toInt64 (M 9 (Int32.toNatClampNeg (0 : Int32)))))) ≤ 0 then some ((0 : Int32), M) else some ((1 : Int32), M))) else lX9_creeps_72 K59 fu x1 x2 x3 x4 (x4 + (1 : Int32)) M)
def lX9_creeps_59 : Nat → Int32 → Int32 → Int32 → Int32 → Mem → Res
  | 0, _, _, _, _, _ => none
  | n + 1, x1, x2, x3, x4, M => gX9_creeps_59 (lX9_creeps_59 n) x1 x2 x3 x4 M
def gX9_creeps_25 (K25 : Int32 → Int32 → Int32 → Mem → Res) (x1 x2 x3 : Int32) (M : Mem) : Res :=
  (if (7 : Int32) ≤ x3 then lX9_creeps_59  fu x1 x2 (0 : Int32) (0 : Int32) M else obi (fX9_dayCost x1 ((x2 - (7 : Int32)) + x3) M) (fun r_44 M_44 => if x3 < 0 ∨ 7 ≤ Int32.toNatClampNeg x3 then none else K25 x1 x2 (x3 + 1) (upM M_44 9 (Int32.toNatClampNeg x3) r_44)))
def lX9_creeps_25 : Nat → Int32 → Int32 → Int32 → Mem → Res
  | 0, _, _, _, _ => none
  | n + 1, x1, x2, x3, M => gX9_creeps_25 (lX9_creeps_25 n) x1 x2 x3 M
def fX9_creeps (x1 : Int32) (M : Mem) : Res :=
  obi (fX9_isService x1 M) (fun r_9 M_9 => (if r_9 = 0 then some ((-1 : Int32), M_9) else (if (7 : Int32) ≤ ((M 0 0) / (24 : Int32)) then lX9_creeps_25  fu x1 ((M 0 0) / (24 : Int32)) (0 : Int32) M_9 else some ((-1 : Int32), M_9))))
theorem calX9_creeps : Cal yX9_creeps cX9_creeps 6 (some .int) 1 := ⟨(mU3 201 rfl rfl), (mU1 10 rfl rfl), by decide +kernel⟩
theorem cavX9_creeps : CalV yX9_creeps := ⟨(mU3 199 rfl rfl), (mU3 200 rfl rfl)⟩
set_option maxHeartbeats 4000000 in
set_option maxRecDepth 100000 in
theorem kX9_creeps_123 {p : Program} {l : Launch} {e : Env} {s : State} {m : MethodId} {args : Array Value} {below : List Frame} {meth : Method} {c : Code} {D : va_G} {cI cZ : ClassId} {a : Nat → Nat} {A : Nat → Prop} {r : Int32} {M' : Mem} (C : Cx p s m args meth c cX9_creeps 6 RX9 (some .int) D cI cZ A) (K59 : Int32 → Int32 → Int32 → Int32 → Mem → Res) (hK59 : ∀ (x1 x2 x3 x4 : Int32) (M : Mem) (H : Heap) (locs : List Loc) (ls : Array Slot), K59 x1 x2 x3 x4 M = some (r, M') → St D (wM cI cZ a) A s.heap H locs M → lv_has ls 6 [(0, .ref (a 0)), (1, .int x1), (2, .int x2), (3, .int x3), (4, .int x4)] → Wi p l e { frames := 3, cells := 0, slots := 0, locals := 70 } s m args below meth c D (wM cI cZ a) A r M' H locs (F0 m 59 ls [])) (K72 : Int32 → Int32 → Int32 → Int32 → Int32 → Mem → Res) (hK72 : ∀ (x1 x2 x3 x4 x5 : Int32) (M : Mem) (H : Heap) (locs : List Loc) (ls : Array Slot), K72 x1 x2 x3 x4 x5 M = some (r, M') → St D (wM cI cZ a) A s.heap H locs M → lv_has ls 6 [(0, .ref (a 0)), (1, .int x1), (2, .int x2), (3, .int x3), (4, .int x4), (5, .int x5)] → Wi p l e { frames := 3, cells := 0, slots := 0, locals := 70 } s m args below meth c D (wM cI cZ a) A r M' H locs (F0 m 72 ls [])) (x1 x2 x3 x4 x5 z0 z1 : Int32) (M : Mem) (H : Heap) (locs : List Loc) (ls : Array Slot) (hf : gX9_creeps_123 K59 K72 x1 x2 x3 x4 x5 z0 z1 M = some (r, M')) (hst : St D (wM cI cZ a) A s.heap H locs M) (hl : lv_has ls 6 [(0, .ref (a 0)), (1, .int x1), (2, .int x2), (3, .int x3), (4, .int x4), (5, .int x5)]) : Wi p l e { frames := 3, cells := 0, slots := 0, locals := 70 } s m args below meth c D (wM cI cZ a) A r M' H locs (F0 m 123 ls [.int z1, .int z0]) := by
  unfold gX9_creeps_123 at hf
  obtain ⟨hx, hb, hml, hown, hU, hr, hlk, hK, hA⟩ := id C
  refine lv_iadd hx hb dX9_creeps_123 ?_
  refine lv_istore_n (lv' := [(3, .int (z0 + z1)), (0, .ref (a 0)), (1, .int x1), (2, .int x2), (4, .int x4), (5, .int x5)]) hx hb dX9_creeps_124 rfl hl (by decide) rfl (fun ls hl => ?_)
  refine lv_iinc (v := (x5 + 1)) (lv' := [(5, .int (x5 + 1)), (3, .int (z0 + z1)), (0, .ref (a 0)), (1, .int x1), (2, .int x2), (4, .int x4)]) hx hb dX9_creeps_125 hl (k := 5) rfl rfl (by decide) rfl (fun ls hl => ?_)
  refine lv_goto (tgt := 72) hx hb dX9_creeps_128 (by decide) ?_
  exact hK72 x1 x2 (z0 + z1) x4 (x5 + 1) M _ _ _ hf hst (lv_sub hl [2, 3, 4, 1, 5, 0] rfl)
set_option maxHeartbeats 4000000 in
set_option maxRecDepth 100000 in
theorem kX9_creeps_72 {p : Program} {l : Launch} {e : Env} {s : State} {m : MethodId} {args : Array Value} {below : List Frame} {meth : Method} {c : Code} {D : va_G} {cI cZ : ClassId} {a : Nat → Nat} {A : Nat → Prop} {r : Int32} {M' : Mem} (C : Cx p s m args meth c cX9_creeps 6 RX9 (some .int) D cI cZ A) (K59 : Int32 → Int32 → Int32 → Int32 → Mem → Res) (hK59 : ∀ (x1 x2 x3 x4 : Int32) (M : Mem) (H : Heap) (locs : List Loc) (ls : Array Slot), K59 x1 x2 x3 x4 M = some (r, M') → St D (wM cI cZ a) A s.heap H locs M → lv_has ls 6 [(0, .ref (a 0)), (1, .int x1), (2, .int x2), (3, .int x3), (4, .int x4)] → Wi p l e { frames := 3, cells := 0, slots := 0, locals := 70 } s m args below meth c D (wM cI cZ a) A r M' H locs (F0 m 59 ls [])) (K72 : Int32 → Int32 → Int32 → Int32 → Int32 → Mem → Res) (hK72 : ∀ (x1 x2 x3 x4 x5 : Int32) (M : Mem) (H : Heap) (locs : List Loc) (ls : Array Slot), K72 x1 x2 x3 x4 x5 M = some (r, M') → St D (wM cI cZ a) A s.heap H locs M → lv_has ls 6 [(0, .ref (a 0)), (1, .int x1), (2, .int x2), (3, .int x3), (4, .int x4), (5, .int x5)] → Wi p l e { frames := 3, cells := 0, slots := 0, locals := 70 } s m args below meth c D (wM cI cZ a) A r M' H locs (F0 m 72 ls [])) (x1 x2 x3 x4 x5 : Int32) (M : Mem) (H : Heap) (locs : List Loc) (ls : Array Slot) (hf : gX9_creeps_72 K59 K72 x1 x2 x3 x4 x5 M = some (r, M')) (hst : St D (wM cI cZ a) A s.heap H locs M) (hl : lv_has ls 6 [(0, .ref (a 0)), (1, .int x1), (2, .int x2), (3, .int x3), (4, .int x4), (5, .int x5)]) : Wi p l e { frames := 3, cells := 0, slots := 0, locals := 70 } s m args below meth c D (wM cI cZ a) A r M' H locs (F0 m 72 ls []) := by
  unfold gX9_creeps_72 at hf
  obtain ⟨hx, hb, hml, hown, hU, hr, hlk, hK, hA⟩ := id C
  refine lv_iload hx hb dX9_creeps_72 (lv_at hl 5 rfl) ?_
  refine lv_bipush (v := 7) hx hb dX9_creeps_74 (by decide) ?_
  refine lv_icmp_ge (tgt := 131) hx hb dX9_creeps_76 (by decide) (fun c_76 => ?_) (fun c_76 => ?_)
  · have hf := ifp c_76 hf
    refine lv_iinc (v := (x4 + 1)) (lv' := [(4, .int (x4 + 1)), (0, .ref (a 0)), (1, .int x1), (2, .int x2), (3, .int x3), (5, .int x5)]) hx hb dX9_creeps_131 hl (k := 4) rfl rfl (by decide) rfl (fun ls hl => ?_)
    refine lv_goto (tgt := 59) hx hb dX9_creeps_134 (by decide) ?_
    exact hK59 x1 x2 x3 (x4 + 1) M _ _ _ hf hst (lv_sub hl [1, 2, 3, 4, 0] rfl)
  · have hf := ifn c_76 hf
    refine lv_iload_n hx hb dX9_creeps_79 rfl (lv_at hl 3 rfl) ?_
    refine lv_aload_n hx hb dX9_creeps_80 rfl (lv_at hl 0 rfl) ?_
    refine gf_X9_39 C hst dX9_creeps_81 ?_
    refine lv_iload hx hb dX9_creeps_84 (lv_at hl 5 rfl) ?_
    obtain ⟨h_86, hf⟩ := og hf
    refine w_iald (N := 7) (f := M 9) C hst 9 rfl h_86 dX9_creeps_86 ?_
    refine lv_aload_n hx hb dX9_creeps_87 rfl (lv_at hl 0 rfl) ?_
    refine gf_X9_39 C hst dX9_creeps_88 ?_
    refine lv_iload hx hb dX9_creeps_91 (lv_at hl 4 rfl) ?_
    obtain ⟨h_93, hf⟩ := og hf
    refine w_iald (N := 7) (f := M 9) C hst 9 rfl h_93 dX9_creeps_93 ?_
    refine lv_icmp_le (tgt := 101) hx hb dX9_creeps_94 (by decide) (fun c_94 => ?_) (fun c_94 => ?_)
    · have hf := ifp c_94 hf
      refine lv_aload_n hx hb dX9_creeps_101 rfl (lv_at hl 0 rfl) ?_
      refine gf_X9_39 C hst dX9_creeps_102 ?_
      refine lv_iload hx hb dX9_creeps_105 (lv_at hl 5 rfl) ?_
      refine w_iald (N := 7) (f := M 9) C hst 9 rfl h_86 dX9_creeps_107 ?_
      refine lv_aload_n hx hb dX9_creeps_108 rfl (lv_at hl 0 rfl) ?_
      refine gf_X9_39 C hst dX9_creeps_109 ?_
      refine lv_iload hx hb dX9_creeps_112 (lv_at hl 4 rfl) ?_
      refine w_iald (N := 7) (f := M 9) C hst 9 rfl h_93 dX9_creeps_114 ?_
      refine lv_icmp_ge (tgt := 122) hx hb dX9_creeps_115 (by decide) (fun c_115 => ?_) (fun c_115 => ?_)
      · have hf := ifp c_115 hf
        refine lv_iconst (v := 0) hx hb dX9_creeps_122 (by decide) ?_
        exact kX9_creeps_123 C K59 hK59 K72 hK72 x1 x2 x3 x4 x5 x3 (0 : Int32) M _ _ _ hf hst (lv_sub hl [0, 1, 2, 3, 4, 5] rfl)
      · have hf := ifn c_115 hf
        refine lv_iconst (v := -1) hx hb dX9_creeps_118 (by decide) ?_
        refine lv_goto (tgt := 123) hx hb dX9_creeps_119 (by decide) ?_
        exact kX9_creeps_123 C K59 hK59 K72 hK72 x1 x2 x3 x4 x5 x3 (-1 : Int32) M _ _ _ hf hst (lv_sub hl [0, 1, 2, 3, 4, 5] rfl)
    · have hf := ifn c_94 hf
      refine lv_iconst (v := 1) hx hb dX9_creeps_97 (by decide) ?_
      refine lv_goto (tgt := 123) hx hb dX9_creeps_98 (by decide) ?_
      exact kX9_creeps_123 C K59 hK59 K72 hK72 x1 x2 x3 x4 x5 x3 (1 : Int32) M _ _ _ hf hst (lv_sub hl [0, 1, 2, 3, 4, 5] rfl)
theorem tX9_creeps_72 {p : Program} {l : Launch} {e : Env} {s : State} {m : MethodId} {args : Array Value} {below : List Frame} {meth : Method} {c : Code} {D : va_G} {cI cZ : ClassId} {a : Nat → Nat} {A : Nat → Prop} {r : Int32} {M' : Mem} (C : Cx p s m args meth c cX9_creeps 6 RX9 (some .int) D cI cZ A) (K59 : Int32 → Int32 → Int32 → Int32 → Mem → Res) (hK59 : ∀ (x1 x2 x3 x4 : Int32) (M : Mem) (H : Heap) (locs : List Loc) (ls : Array Slot), K59 x1 x2 x3 x4 M = some (r, M') → St D (wM cI cZ a) A s.heap H locs M → lv_has ls 6 [(0, .ref (a 0)), (1, .int x1), (2, .int x2), (3, .int x3), (4, .int x4)] → Wi p l e { frames := 3, cells := 0, slots := 0, locals := 70 } s m args below meth c D (wM cI cZ a) A r M' H locs (F0 m 59 ls [])) : ∀ (n : Nat) (x1 x2 x3 x4 x5 : Int32) (M : Mem) (H : Heap) (locs : List Loc) (ls : Array Slot), lX9_creeps_72 K59 n x1 x2 x3 x4 x5 M = some (r, M') → St D (wM cI cZ a) A s.heap H locs M → lv_has ls 6 [(0, .ref (a 0)), (1, .int x1), (2, .int x2), (3, .int x3), (4, .int x4), (5, .int x5)] → Wi p l e { frames := 3, cells := 0, slots := 0, locals := 70 } s m args below meth c D (wM cI cZ a) A r M' H locs (F0 m 72 ls []) := by
  intro n
  induction n with
  | zero =>
    intro x1 x2 x3 x4 x5 M H locs ls hf
    exact nomatch (show (none : Res) = some (r, M') from hf)
  | succ n ih =>
    intro x1 x2 x3 x4 x5 M H locs ls hf hst hl
    exact kX9_creeps_72 C K59 hK59 (lX9_creeps_72 K59 n) ih x1 x2 x3 x4 x5 M H locs ls hf hst hl

set_option maxHeartbeats 4000000 in
set_option maxRecDepth 100000 in
theorem kX9_creeps_59 {p : Program} {l : Launch} {e : Env} {s : State} {m : MethodId} {args : Array Value} {below : List Frame} {meth : Method} {c : Code} {D : va_G} {cI cZ : ClassId} {a : Nat → Nat} {A : Nat → Prop} {r : Int32} {M' : Mem} (C : Cx p s m args meth c cX9_creeps 6 RX9 (some .int) D cI cZ A) (K59 : Int32 → Int32 → Int32 → Int32 → Mem → Res) (hK59 : ∀ (x1 x2 x3 x4 : Int32) (M : Mem) (H : Heap) (locs : List Loc) (ls : Array Slot), K59 x1 x2 x3 x4 M = some (r, M') → St D (wM cI cZ a) A s.heap H locs M → lv_has ls 6 [(0, .ref (a 0)), (1, .int x1), (2, .int x2), (3, .int x3), (4, .int x4)] → Wi p l e { frames := 3, cells := 0, slots := 0, locals := 70 } s m args below meth c D (wM cI cZ a) A r M' H locs (F0 m 59 ls [])) (x1 x2 x3 x4 : Int32) (M : Mem) (H : Heap) (locs : List Loc) (ls : Array Slot) (hf : gX9_creeps_59 K59 x1 x2 x3 x4 M = some (r, M')) (hst : St D (wM cI cZ a) A s.heap H locs M) (hl : lv_has ls 6 [(0, .ref (a 0)), (1, .int x1), (2, .int x2), (3, .int x3), (4, .int x4)]) : Wi p l e { frames := 3, cells := 0, slots := 0, locals := 70 } s m args below meth c D (wM cI cZ a) A r M' H locs (F0 m 59 ls []) := by
  unfold gX9_creeps_59 at hf
  obtain ⟨hx, hb, hml, hown, hU, hr, hlk, hK, hA⟩ := id C
  refine lv_iload hx hb dX9_creeps_59 (lv_at hl 4 rfl) ?_
  refine lv_bipush (v := 7) hx hb dX9_creeps_61 (by decide) ?_
  refine lv_icmp_ge (tgt := 137) hx hb dX9_creeps_63 (by decide) (fun c_63 => ?_) (fun c_63 => ?_)
  · have hf := ifp c_63 hf
    refine lv_iload_n hx hb dX9_creeps_137 rfl (lv_at hl 3 rfl) ?_
    refine lv_bipush (v := 15) hx hb dX9_creeps_138 (by decide) ?_
    refine lv_icmp_lt (tgt := 174) hx hb dX9_creeps_140 (by decide) (fun c_140 => ?_) (fun c_140 => ?_)
    · have hf := ifp c_140 hf
      refine lv_iconst (v := 0) hx hb dX9_creeps_174 (by decide) ?_
      obtain ⟨e1, e2⟩ := sinj hf
      subst e1
      subst e2
      exact w_iret C hst dX9_creeps_175
    · have hf := ifn c_140 hf
      refine lv_ldc2 (v := 10) hx hb hown (hU (.constantLong RX9 120 10) (mU3 206 rfl rfl)) dX9_creeps_143 ?_
      refine lv_aload_n hx hb dX9_creeps_146 rfl (lv_at hl 0 rfl) ?_
      refine gf_X9_39 C hst dX9_creeps_147 ?_
      refine lv_bipush (v := 6) hx hb dX9_creeps_150 (by decide) ?_
      refine w_iald (N := 7) (f := M 9) C hst 9 rfl (by unfold vp_in; decide) dX9_creeps_152 ?_
      refine lv_i2l hx hb dX9_creeps_153 rfl ?_
      refine lv_lmul hx hb dX9_creeps_154 ?_
      refine lv_ldc2 (v := 11) hx hb hown (hU (.constantLong RX9 122 11) (mU3 207 rfl rfl)) dX9_creeps_155 ?_
      refine lv_aload_n hx hb dX9_creeps_158 rfl (lv_at hl 0 rfl) ?_
      refine gf_X9_39 C hst dX9_creeps_159 ?_
      refine lv_iconst (v := 0) hx hb dX9_creeps_162 (by decide) ?_
      refine w_iald (N := 7) (f := M 9) C hst 9 rfl (by unfold vp_in; decide) dX9_creeps_163 ?_
      refine lv_i2l hx hb dX9_creeps_164 rfl ?_
      refine lv_lmul hx hb dX9_creeps_165 ?_
      refine W.lcmp hx hb dX9_creeps_166 ?_
      refine lv_if_le (tgt := 174) hx hb dX9_creeps_167 (by decide) (fun c_167 => ?_) (fun c_167 => ?_)
      · have hf := ifp c_167 hf
        refine lv_iconst (v := 0) hx hb dX9_creeps_174 (by decide) ?_
        obtain ⟨e1, e2⟩ := sinj hf
        subst e1
        subst e2
        exact w_iret C hst dX9_creeps_175
      · have hf := ifn c_167 hf
        refine lv_iconst (v := 1) hx hb dX9_creeps_170 (by decide) ?_
        refine lv_goto (tgt := 175) hx hb dX9_creeps_171 (by decide) ?_
        obtain ⟨e1, e2⟩ := sinj hf
        subst e1
        subst e2
        exact w_iret C hst dX9_creeps_175
  · have hf := ifn c_63 hf
    refine lv_iload hx hb dX9_creeps_66 (lv_at hl 4 rfl) ?_
    refine lv_iconst (v := 1) hx hb dX9_creeps_68 (by decide) ?_
    refine lv_iadd hx hb dX9_creeps_69 ?_
    refine lv_istore (lv' := [(5, .int (x4 + (1 : Int32))), (0, .ref (a 0)), (1, .int x1), (2, .int x2), (3, .int x3), (4, .int x4)]) hx hb dX9_creeps_70 hl (by decide) rfl (fun ls hl => ?_)
    exact tX9_creeps_72 C K59 hK59 fu x1 x2 x3 x4 (x4 + (1 : Int32)) M _ _ _ hf hst (lv_sub hl [1, 2, 3, 4, 5, 0] rfl)
theorem tX9_creeps_59 {p : Program} {l : Launch} {e : Env} {s : State} {m : MethodId} {args : Array Value} {below : List Frame} {meth : Method} {c : Code} {D : va_G} {cI cZ : ClassId} {a : Nat → Nat} {A : Nat → Prop} {r : Int32} {M' : Mem} (C : Cx p s m args meth c cX9_creeps 6 RX9 (some .int) D cI cZ A)  : ∀ (n : Nat) (x1 x2 x3 x4 : Int32) (M : Mem) (H : Heap) (locs : List Loc) (ls : Array Slot), lX9_creeps_59 n x1 x2 x3 x4 M = some (r, M') → St D (wM cI cZ a) A s.heap H locs M → lv_has ls 6 [(0, .ref (a 0)), (1, .int x1), (2, .int x2), (3, .int x3), (4, .int x4)] → Wi p l e { frames := 3, cells := 0, slots := 0, locals := 70 } s m args below meth c D (wM cI cZ a) A r M' H locs (F0 m 59 ls []) := by
  intro n
  induction n with
  | zero =>
    intro x1 x2 x3 x4 M H locs ls hf
    exact nomatch (show (none : Res) = some (r, M') from hf)
  | succ n ih =>
    intro x1 x2 x3 x4 M H locs ls hf hst hl
    exact kX9_creeps_59 C (lX9_creeps_59 n) ih x1 x2 x3 x4 M H locs ls hf hst hl

set_option maxHeartbeats 4000000 in
set_option maxRecDepth 100000 in
theorem kX9_creeps_25 {p : Program} {l : Launch} {e : Env} {s : State} {m : MethodId} {args : Array Value} {below : List Frame} {meth : Method} {c : Code} {D : va_G} {cI cZ : ClassId} {a : Nat → Nat} {A : Nat → Prop} {r : Int32} {M' : Mem} (C : Cx p s m args meth c cX9_creeps 6 RX9 (some .int) D cI cZ A) (K25 : Int32 → Int32 → Int32 → Mem → Res) (hK25 : ∀ (x1 x2 x3 : Int32) (M : Mem) (H : Heap) (locs : List Loc) (ls : Array Slot), K25 x1 x2 x3 M = some (r, M') → St D (wM cI cZ a) A s.heap H locs M → lv_has ls 6 [(0, .ref (a 0)), (1, .int x1), (2, .int x2), (3, .int x3)] → Wi p l e { frames := 3, cells := 0, slots := 0, locals := 70 } s m args below meth c D (wM cI cZ a) A r M' H locs (F0 m 25 ls [])) (x1 x2 x3 : Int32) (M : Mem) (H : Heap) (locs : List Loc) (ls : Array Slot) (hf : gX9_creeps_25 K25 x1 x2 x3 M = some (r, M')) (hst : St D (wM cI cZ a) A s.heap H locs M) (hl : lv_has ls 6 [(0, .ref (a 0)), (1, .int x1), (2, .int x2), (3, .int x3)]) : Wi p l e { frames := 3, cells := 0, slots := 0, locals := 70 } s m args below meth c D (wM cI cZ a) A r M' H locs (F0 m 25 ls []) := by
  unfold gX9_creeps_25 at hf
  obtain ⟨hx, hb, hml, hown, hU, hr, hlk, hK, hA⟩ := id C
  refine lv_iload_n hx hb dX9_creeps_25 rfl (lv_at hl 3 rfl) ?_
  refine lv_bipush (v := 7) hx hb dX9_creeps_26 (by decide) ?_
  refine lv_icmp_ge (tgt := 54) hx hb dX9_creeps_28 (by decide) (fun c_28 => ?_) (fun c_28 => ?_)
  · have hf := ifp c_28 hf
    refine lv_iconst (v := 0) hx hb dX9_creeps_54 (by decide) ?_
    refine lv_istore_n (lv' := [(3, .int (0 : Int32)), (0, .ref (a 0)), (1, .int x1), (2, .int x2)]) hx hb dX9_creeps_55 rfl hl (by decide) rfl (fun ls hl => ?_)
    refine lv_iconst (v := 0) hx hb dX9_creeps_56 (by decide) ?_
    refine lv_istore (lv' := [(4, .int (0 : Int32)), (3, .int (0 : Int32)), (0, .ref (a 0)), (1, .int x1), (2, .int x2)]) hx hb dX9_creeps_57 hl (by decide) rfl (fun ls hl => ?_)
    exact tX9_creeps_59 C  fu x1 x2 (0 : Int32) (0 : Int32) M _ _ _ hf hst (lv_sub hl [2, 3, 4, 1, 0] rfl)
  · have hf := ifn c_28 hf
    refine lv_aload_n hx hb dX9_creeps_31 rfl (lv_at hl 0 rfl) ?_
    refine gf_X9_39 C hst dX9_creeps_32 ?_
    refine lv_iload_n hx hb dX9_creeps_35 rfl (lv_at hl 3 rfl) ?_
    refine lv_aload_n hx hb dX9_creeps_36 rfl (lv_at hl 0 rfl) ?_
    refine lv_iload_n hx hb dX9_creeps_37 rfl (lv_at hl 1 rfl) ?_
    refine lv_iload_n hx hb dX9_creeps_38 rfl (lv_at hl 2 rfl) ?_
    refine lv_bipush (v := 7) hx hb dX9_creeps_39 (by decide) ?_
    refine lv_isub hx hb dX9_creeps_41 ?_
    refine lv_iload_n hx hb dX9_creeps_42 rfl (lv_at hl 3 rfl) ?_
    refine lv_iadd hx hb dX9_creeps_43 ?_
    obtain ⟨r_44, M_44, hc_44, hf⟩ := obi_some hf
    refine w_cVi (As := [.int x1, .int ((x2 - (7 : Int32)) + x3)]) (rest := [.int x3, .ref (a 9)]) C (wM_ad cI cZ a) (mX9_dayCost l D cI cZ a x1 ((x2 - (7 : Int32)) + x3) M r_44 M_44 hc_44) calX9_dayCost cavX9_dayCost (mU3 202 rfl rfl) hst hl.1 0 9 rfl rfl rfl rfl (Nat.le_of_ble_eq_true rfl) ⟨Nat.le_of_ble_eq_true rfl, Nat.le_of_ble_eq_true rfl⟩ dX9_creeps_44 (fun H locs hst => ?_)
    obtain ⟨h_47, hf⟩ := og hf
    refine w_iast (N := 7) (f := M_44 9) (M' := (upM M_44 9 (Int32.toNatClampNeg x3) r_44)) C hst 9 rfl (wM_set9 cI cZ a M_44 (Int32.toNatClampNeg x3) r_44) h_47 dX9_creeps_47 (fun H locs hst => ?_)
    refine lv_iinc (v := (x3 + 1)) (lv' := [(3, .int (x3 + 1)), (0, .ref (a 0)), (1, .int x1), (2, .int x2)]) hx hb dX9_creeps_48 hl (k := 3) rfl rfl (by decide) rfl (fun ls hl => ?_)
    refine lv_goto (tgt := 25) hx hb dX9_creeps_51 (by decide) ?_
    exact hK25 x1 x2 (x3 + 1) (upM M_44 9 (Int32.toNatClampNeg x3) r_44) _ _ _ hf hst (lv_sub hl [1, 2, 3, 0] rfl)
theorem tX9_creeps_25 {p : Program} {l : Launch} {e : Env} {s : State} {m : MethodId} {args : Array Value} {below : List Frame} {meth : Method} {c : Code} {D : va_G} {cI cZ : ClassId} {a : Nat → Nat} {A : Nat → Prop} {r : Int32} {M' : Mem} (C : Cx p s m args meth c cX9_creeps 6 RX9 (some .int) D cI cZ A)  : ∀ (n : Nat) (x1 x2 x3 : Int32) (M : Mem) (H : Heap) (locs : List Loc) (ls : Array Slot), lX9_creeps_25 n x1 x2 x3 M = some (r, M') → St D (wM cI cZ a) A s.heap H locs M → lv_has ls 6 [(0, .ref (a 0)), (1, .int x1), (2, .int x2), (3, .int x3)] → Wi p l e { frames := 3, cells := 0, slots := 0, locals := 70 } s m args below meth c D (wM cI cZ a) A r M' H locs (F0 m 25 ls []) := by
  intro n
  induction n with
  | zero =>
    intro x1 x2 x3 M H locs ls hf
    exact nomatch (show (none : Res) = some (r, M') from hf)
  | succ n ih =>
    intro x1 x2 x3 M H locs ls hf hst hl
    exact kX9_creeps_25 C (lX9_creeps_25 n) ih x1 x2 x3 M H locs ls hf hst hl

set_option maxHeartbeats 4000000 in
set_option maxRecDepth 100000 in
theorem kX9_creeps_0 {p : Program} {l : Launch} {e : Env} {s : State} {m : MethodId} {args : Array Value} {below : List Frame} {meth : Method} {c : Code} {D : va_G} {cI cZ : ClassId} {a : Nat → Nat} {A : Nat → Prop} {r : Int32} {M' : Mem} (C : Cx p s m args meth c cX9_creeps 6 RX9 (some .int) D cI cZ A)  (x1 : Int32) (M : Mem) (H : Heap) (locs : List Loc) (ls : Array Slot) (hf : fX9_creeps x1 M = some (r, M')) (hst : St D (wM cI cZ a) A s.heap H locs M) (hl : lv_has ls 6 [(0, .ref (a 0)), (1, .int x1)]) : Wi p l e { frames := 3, cells := 0, slots := 0, locals := 70 } s m args below meth c D (wM cI cZ a) A r M' H locs (F0 m 0 ls []) := by
  unfold fX9_creeps at hf
  obtain ⟨hx, hb, hml, hown, hU, hr, hlk, hK, hA⟩ := id C
  refine lv_aload_n hx hb dX9_creeps_0 rfl (lv_at hl 0 rfl) ?_
  refine gf_X9_83 C hst dX9_creeps_1 ?_
  refine lv_bipush (v := 24) hx hb dX9_creeps_4 (by decide) ?_
  refine lv_idiv hx hb dX9_creeps_6 (by decide) ?_
  refine lv_istore_n (lv' := [(2, .int ((M 0 0) / (24 : Int32))), (0, .ref (a 0)), (1, .int x1)]) hx hb dX9_creeps_7 rfl hl (by decide) rfl (fun ls hl => ?_)
  refine lv_iload_n hx hb dX9_creeps_8 rfl (lv_at hl 2 rfl) ?_
  obtain ⟨r_9, M_9, hc_9, hf⟩ := obi_some hf
  refine w_cSi (As := [.int x1]) (rest := []) C (wM_ad cI cZ a) (mX9_isService l D cI cZ a x1 M r_9 M_9 hc_9) calX9_isService casX9_isService (mU3 132 rfl rfl) hst hl.1 rfl rfl (Nat.le_of_ble_eq_true rfl) ⟨Nat.le_of_ble_eq_true rfl, Nat.le_of_ble_eq_true rfl⟩ dX9_creeps_9 (fun H locs hst => ?_)
  refine lv_if_eq (tgt := 21) hx hb dX9_creeps_12 (by decide) (fun c_12 => ?_) (fun c_12 => ?_)
  · have hf := ifp c_12 hf
    refine lv_iconst (v := -1) hx hb dX9_creeps_21 (by decide) ?_
    obtain ⟨e1, e2⟩ := sinj hf
    subst e1
    subst e2
    exact w_iret C hst dX9_creeps_22
  · have hf := ifn c_12 hf
    refine lv_iload_n hx hb dX9_creeps_15 rfl (lv_at hl 0 rfl) ?_
    refine lv_bipush (v := 7) hx hb dX9_creeps_16 (by decide) ?_
    refine lv_icmp_ge (tgt := 23) hx hb dX9_creeps_18 (by decide) (fun c_18 => ?_) (fun c_18 => ?_)
    · have hf := ifp c_18 hf
      refine lv_iconst (v := 0) hx hb dX9_creeps_23 (by decide) ?_
      refine lv_istore_n (lv' := [(3, .int (0 : Int32)), (2, .int ((M 0 0) / (24 : Int32))), (0, .ref (a 0)), (1, .int x1)]) hx hb dX9_creeps_24 rfl hl (by decide) rfl (fun ls hl => ?_)
      exact tX9_creeps_25 C  fu x1 ((M 0 0) / (24 : Int32)) (0 : Int32) M_9 _ _ _ hf hst (lv_sub hl [2, 3, 1, 0] rfl)
    · have hf := ifn c_18 hf
      refine lv_iconst (v := -1) hx hb dX9_creeps_21 (by decide) ?_
      obtain ⟨e1, e2⟩ := sinj hf
      subst e1
      subst e2
      exact w_iret C hst dX9_creeps_22
set_option maxRecDepth 100000 in
theorem mX9_creeps (l : Launch) (D : va_G) (cI cZ : ClassId) (a : Nat → Nat) (x1 : Int32) (M : Mem) (r : Int32) (M' : Mem) (hf : fX9_creeps x1 M = some (r, M')) : MI l D cI cZ (wM cI cZ a) yX9_creeps cX9_creeps 6 (some .int) 3 70 [.ref (a 0), .int x1] M r M' :=
  MI.of (by decide) (Nat.le_of_ble_eq_true rfl) (fun p e s m args below meth c A C hst ls hl => kX9_creeps_0 C x1 M s.heap [] ls hf hst hl)

def gX9_causeOf_76 (K5 : Int32 → Int32 → Int32 → Int32 → Mem → Res) (x1 x2 x3 x4 : Int32) (M : Mem) : Res :=
  K5 x1 x2 x3 (x4 + 1) M
def gX9_causeOf_73 (K5 : Int32 → Int32 → Int32 → Int32 → Mem → Res) (x1 x2 x3 x4 : Int32) (M : Mem) : Res :=
  gX9_causeOf_76 K5 x1 x2 x4 x4 M
def gX9_causeOf_5 (K5 : Int32 → Int32 → Int32 → Int32 → Mem → Res) (x1 x2 x3 x4 : Int32) (M : Mem) : Res :=
  (if (M 0 1) ≤ x4 then some (x3, M) else if x4 < 0 ∨ 40 ≤ Int32.toNatClampNeg x4 then none else (if (M 5 (Int32.toNatClampNeg x4)) = x1 then obi (fX9_runs x4 x2 M) (fun r_29 M_29 => (if r_29 = 0 then gX9_causeOf_76 K5 x1 x2 x3 x4 M_29 else (if (x2 - (23 : Int32)) ≤ (M_29 7 (Int32.toNatClampNeg x4)) then (if x3 = (-1 : Int32) then gX9_causeOf_73 K5 x1 x2 x3 x4 M_29 else if x3 < 0 ∨ 40 ≤ Int32.toNatClampNeg x3 then none else (if (M_29 6 (Int32.toNatClampNeg x4)) ≤ (M_29 6 (Int32.toNatClampNeg x3)) then gX9_causeOf_76 K5 x1 x2 x3 x4 M_29 else gX9_causeOf_73 K5 x1 x2 x3 x4 M_29)) else gX9_causeOf_76 K5 x1 x2 x3 x4 M_29))) else gX9_causeOf_76 K5 x1 x2 x3 x4 M))
def lX9_causeOf_5 : Nat → Int32 → Int32 → Int32 → Int32 → Mem → Res
  | 0, _, _, _, _, _ => none
  | n + 1, x1, x2, x3, x4, M => gX9_causeOf_5 (lX9_causeOf_5 n) x1 x2 x3 x4 M
def fX9_causeOf (x1 x2 : Int32) (M : Mem) : Res :=
  lX9_causeOf_5  fu x1 x2 (-1 : Int32) (0 : Int32) M
theorem calX9_causeOf : Cal yX9_causeOf cX9_causeOf 5 (some .int) 2 := ⟨(mU3 219 rfl rfl), (mU1 10 rfl rfl), by decide +kernel⟩
theorem cavX9_causeOf : CalV yX9_causeOf := ⟨(mU3 218 rfl rfl), (mS2 4 rfl)⟩
set_option maxHeartbeats 4000000 in
set_option maxRecDepth 100000 in
theorem kX9_causeOf_76 {p : Program} {l : Launch} {e : Env} {s : State} {m : MethodId} {args : Array Value} {below : List Frame} {meth : Method} {c : Code} {D : va_G} {cI cZ : ClassId} {a : Nat → Nat} {A : Nat → Prop} {r : Int32} {M' : Mem} (C : Cx p s m args meth c cX9_causeOf 5 RX9 (some .int) D cI cZ A) (K5 : Int32 → Int32 → Int32 → Int32 → Mem → Res) (hK5 : ∀ (x1 x2 x3 x4 : Int32) (M : Mem) (H : Heap) (locs : List Loc) (ls : Array Slot), K5 x1 x2 x3 x4 M = some (r, M') → St D (wM cI cZ a) A s.heap H locs M → lv_has ls 5 [(0, .ref (a 0)), (1, .int x1), (2, .int x2), (3, .int x3), (4, .int x4)] → Wi p l e { frames := 1, cells := 0, slots := 0, locals := 22 } s m args below meth c D (wM cI cZ a) A r M' H locs (F0 m 5 ls [])) (x1 x2 x3 x4 : Int32) (M : Mem) (H : Heap) (locs : List Loc) (ls : Array Slot) (hf : gX9_causeOf_76 K5 x1 x2 x3 x4 M = some (r, M')) (hst : St D (wM cI cZ a) A s.heap H locs M) (hl : lv_has ls 5 [(0, .ref (a 0)), (1, .int x1), (2, .int x2), (3, .int x3), (4, .int x4)]) : Wi p l e { frames := 1, cells := 0, slots := 0, locals := 22 } s m args below meth c D (wM cI cZ a) A r M' H locs (F0 m 76 ls []) := by
  unfold gX9_causeOf_76 at hf
  obtain ⟨hx, hb, hml, hown, hU, hr, hlk, hK, hA⟩ := id C
  refine lv_iinc (v := (x4 + 1)) (lv' := [(4, .int (x4 + 1)), (0, .ref (a 0)), (1, .int x1), (2, .int x2), (3, .int x3)]) hx hb dX9_causeOf_76 hl (k := 4) rfl rfl (by decide) rfl (fun ls hl => ?_)
  refine lv_goto (tgt := 5) hx hb dX9_causeOf_79 (by decide) ?_
  exact hK5 x1 x2 x3 (x4 + 1) M _ _ _ hf hst (lv_sub hl [1, 2, 3, 4, 0] rfl)
set_option maxHeartbeats 4000000 in
set_option maxRecDepth 100000 in
theorem kX9_causeOf_73 {p : Program} {l : Launch} {e : Env} {s : State} {m : MethodId} {args : Array Value} {below : List Frame} {meth : Method} {c : Code} {D : va_G} {cI cZ : ClassId} {a : Nat → Nat} {A : Nat → Prop} {r : Int32} {M' : Mem} (C : Cx p s m args meth c cX9_causeOf 5 RX9 (some .int) D cI cZ A) (K5 : Int32 → Int32 → Int32 → Int32 → Mem → Res) (hK5 : ∀ (x1 x2 x3 x4 : Int32) (M : Mem) (H : Heap) (locs : List Loc) (ls : Array Slot), K5 x1 x2 x3 x4 M = some (r, M') → St D (wM cI cZ a) A s.heap H locs M → lv_has ls 5 [(0, .ref (a 0)), (1, .int x1), (2, .int x2), (3, .int x3), (4, .int x4)] → Wi p l e { frames := 1, cells := 0, slots := 0, locals := 22 } s m args below meth c D (wM cI cZ a) A r M' H locs (F0 m 5 ls [])) (x1 x2 x3 x4 : Int32) (M : Mem) (H : Heap) (locs : List Loc) (ls : Array Slot) (hf : gX9_causeOf_73 K5 x1 x2 x3 x4 M = some (r, M')) (hst : St D (wM cI cZ a) A s.heap H locs M) (hl : lv_has ls 5 [(0, .ref (a 0)), (1, .int x1), (2, .int x2), (3, .int x3), (4, .int x4)]) : Wi p l e { frames := 1, cells := 0, slots := 0, locals := 22 } s m args below meth c D (wM cI cZ a) A r M' H locs (F0 m 73 ls []) := by
  unfold gX9_causeOf_73 at hf
  obtain ⟨hx, hb, hml, hown, hU, hr, hlk, hK, hA⟩ := id C
  refine lv_iload hx hb dX9_causeOf_73 (lv_at hl 4 rfl) ?_
  refine lv_istore_n (lv' := [(3, .int x4), (0, .ref (a 0)), (1, .int x1), (2, .int x2), (4, .int x4)]) hx hb dX9_causeOf_75 rfl hl (by decide) rfl (fun ls hl => ?_)
  exact kX9_causeOf_76 C K5 hK5 x1 x2 x4 x4 M _ _ _ hf hst (lv_sub hl [1, 2, 3, 0, 4] rfl)
set_option maxHeartbeats 4000000 in
set_option maxRecDepth 100000 in
theorem kX9_causeOf_5 {p : Program} {l : Launch} {e : Env} {s : State} {m : MethodId} {args : Array Value} {below : List Frame} {meth : Method} {c : Code} {D : va_G} {cI cZ : ClassId} {a : Nat → Nat} {A : Nat → Prop} {r : Int32} {M' : Mem} (C : Cx p s m args meth c cX9_causeOf 5 RX9 (some .int) D cI cZ A) (K5 : Int32 → Int32 → Int32 → Int32 → Mem → Res) (hK5 : ∀ (x1 x2 x3 x4 : Int32) (M : Mem) (H : Heap) (locs : List Loc) (ls : Array Slot), K5 x1 x2 x3 x4 M = some (r, M') → St D (wM cI cZ a) A s.heap H locs M → lv_has ls 5 [(0, .ref (a 0)), (1, .int x1), (2, .int x2), (3, .int x3), (4, .int x4)] → Wi p l e { frames := 1, cells := 0, slots := 0, locals := 22 } s m args below meth c D (wM cI cZ a) A r M' H locs (F0 m 5 ls [])) (x1 x2 x3 x4 : Int32) (M : Mem) (H : Heap) (locs : List Loc) (ls : Array Slot) (hf : gX9_causeOf_5 K5 x1 x2 x3 x4 M = some (r, M')) (hst : St D (wM cI cZ a) A s.heap H locs M) (hl : lv_has ls 5 [(0, .ref (a 0)), (1, .int x1), (2, .int x2), (3, .int x3), (4, .int x4)]) : Wi p l e { frames := 1, cells := 0, slots := 0, locals := 22 } s m args below meth c D (wM cI cZ a) A r M' H locs (F0 m 5 ls []) := by
  unfold gX9_causeOf_5 at hf
  obtain ⟨hx, hb, hml, hown, hU, hr, hlk, hK, hA⟩ := id C
  refine lv_iload hx hb dX9_causeOf_5 (lv_at hl 4 rfl) ?_
  refine lv_aload_n hx hb dX9_causeOf_7 rfl (lv_at hl 0 rfl) ?_
  refine gf_X9_80 C hst dX9_causeOf_8 ?_
  refine lv_icmp_ge (tgt := 82) hx hb dX9_causeOf_11 (by decide) (fun c_11 => ?_) (fun c_11 => ?_)
  · have hf := ifp c_11 hf
    refine lv_iload_n hx hb dX9_causeOf_82 rfl (lv_at hl 3 rfl) ?_
    obtain ⟨e1, e2⟩ := sinj hf
    subst e1
    subst e2
    exact w_iret C hst dX9_causeOf_83
  · have hf := ifn c_11 hf
    refine lv_aload_n hx hb dX9_causeOf_14 rfl (lv_at hl 0 rfl) ?_
    refine gf_X9_27 C hst dX9_causeOf_15 ?_
    refine lv_iload hx hb dX9_causeOf_18 (lv_at hl 4 rfl) ?_
    obtain ⟨h_20, hf⟩ := og hf
    refine w_iald (N := 40) (f := M 5) C hst 5 rfl h_20 dX9_causeOf_20 ?_
    refine lv_iload_n hx hb dX9_causeOf_21 rfl (lv_at hl 1 rfl) ?_
    refine lv_icmp_ne (tgt := 76) hx hb dX9_causeOf_22 (by decide) (fun c_22 => ?_) (fun c_22 => ?_)
    · have hf := ifn c_22 hf
      exact kX9_causeOf_76 C K5 hK5 x1 x2 x3 x4 M _ _ _ hf hst (lv_sub hl [0, 1, 2, 3, 4] rfl)
    · have hf := ifp c_22 hf
      refine lv_aload_n hx hb dX9_causeOf_25 rfl (lv_at hl 0 rfl) ?_
      refine lv_iload hx hb dX9_causeOf_26 (lv_at hl 4 rfl) ?_
      refine lv_iload_n hx hb dX9_causeOf_28 rfl (lv_at hl 2 rfl) ?_
      obtain ⟨r_29, M_29, hc_29, hf⟩ := obi_some hf
      refine w_cVi (As := [.int x4, .int x2]) (rest := []) C (wM_ad cI cZ a) (mX9_runs l D cI cZ a x4 x2 M r_29 M_29 hc_29) calX9_runs cavX9_runs (mU3 178 rfl rfl) hst hl.1 0 9 rfl rfl rfl rfl (Nat.le_of_ble_eq_true rfl) ⟨Nat.le_of_ble_eq_true rfl, Nat.le_of_ble_eq_true rfl⟩ dX9_causeOf_29 (fun H locs hst => ?_)
      refine lv_if_eq (tgt := 76) hx hb dX9_causeOf_32 (by decide) (fun c_32 => ?_) (fun c_32 => ?_)
      · have hf := ifp c_32 hf
        exact kX9_causeOf_76 C K5 hK5 x1 x2 x3 x4 M_29 _ _ _ hf hst (lv_sub hl [0, 1, 2, 3, 4] rfl)
      · have hf := ifn c_32 hf
        refine lv_aload_n hx hb dX9_causeOf_35 rfl (lv_at hl 0 rfl) ?_
        refine gf_X9_33 C hst dX9_causeOf_36 ?_
        refine lv_iload hx hb dX9_causeOf_39 (lv_at hl 4 rfl) ?_
        refine w_iald (N := 40) (f := M_29 7) C hst 7 rfl h_20 dX9_causeOf_41 ?_
        refine lv_iload_n hx hb dX9_causeOf_42 rfl (lv_at hl 2 rfl) ?_
        refine lv_bipush (v := 23) hx hb dX9_causeOf_43 (by decide) ?_
        refine lv_isub hx hb dX9_causeOf_45 ?_
        refine lv_icmp_ge (tgt := 52) hx hb dX9_causeOf_46 (by decide) (fun c_46 => ?_) (fun c_46 => ?_)
        · have hf := ifp c_46 hf
          refine lv_iload_n hx hb dX9_causeOf_52 rfl (lv_at hl 3 rfl) ?_
          refine lv_iconst (v := -1) hx hb dX9_causeOf_53 (by decide) ?_
          refine lv_icmp_eq (tgt := 73) hx hb dX9_causeOf_54 (by decide) (fun c_54 => ?_) (fun c_54 => ?_)
          · have hf := ifp c_54 hf
            exact kX9_causeOf_73 C K5 hK5 x1 x2 x3 x4 M_29 _ _ _ hf hst (lv_sub hl [0, 1, 2, 3, 4] rfl)
          · have hf := ifn c_54 hf
            refine lv_aload_n hx hb dX9_causeOf_57 rfl (lv_at hl 0 rfl) ?_
            refine gf_X9_30 C hst dX9_causeOf_58 ?_
            refine lv_iload hx hb dX9_causeOf_61 (lv_at hl 4 rfl) ?_
            refine w_iald (N := 40) (f := M_29 6) C hst 6 rfl h_20 dX9_causeOf_63 ?_
            refine lv_aload_n hx hb dX9_causeOf_64 rfl (lv_at hl 0 rfl) ?_
            refine gf_X9_30 C hst dX9_causeOf_65 ?_
            refine lv_iload_n hx hb dX9_causeOf_68 rfl (lv_at hl 3 rfl) ?_
            obtain ⟨h_69, hf⟩ := og hf
            refine w_iald (N := 40) (f := M_29 6) C hst 6 rfl h_69 dX9_causeOf_69 ?_
            refine lv_icmp_le (tgt := 76) hx hb dX9_causeOf_70 (by decide) (fun c_70 => ?_) (fun c_70 => ?_)
            · have hf := ifp c_70 hf
              exact kX9_causeOf_76 C K5 hK5 x1 x2 x3 x4 M_29 _ _ _ hf hst (lv_sub hl [0, 1, 2, 3, 4] rfl)
            · have hf := ifn c_70 hf
              exact kX9_causeOf_73 C K5 hK5 x1 x2 x3 x4 M_29 _ _ _ hf hst (lv_sub hl [0, 1, 2, 3, 4] rfl)
        · have hf := ifn c_46 hf
          refine lv_goto (tgt := 76) hx hb dX9_causeOf_49 (by decide) ?_
          exact kX9_causeOf_76 C K5 hK5 x1 x2 x3 x4 M_29 _ _ _ hf hst (lv_sub hl [0, 1, 2, 3, 4] rfl)
theorem tX9_causeOf_5 {p : Program} {l : Launch} {e : Env} {s : State} {m : MethodId} {args : Array Value} {below : List Frame} {meth : Method} {c : Code} {D : va_G} {cI cZ : ClassId} {a : Nat → Nat} {A : Nat → Prop} {r : Int32} {M' : Mem} (C : Cx p s m args meth c cX9_causeOf 5 RX9 (some .int) D cI cZ A)  : ∀ (n : Nat) (x1 x2 x3 x4 : Int32) (M : Mem) (H : Heap) (locs : List Loc) (ls : Array Slot), lX9_causeOf_5 n x1 x2 x3 x4 M = some (r, M') → St D (wM cI cZ a) A s.heap H locs M → lv_has ls 5 [(0, .ref (a 0)), (1, .int x1), (2, .int x2), (3, .int x3), (4, .int x4)] → Wi p l e { frames := 1, cells := 0, slots := 0, locals := 22 } s m args below meth c D (wM cI cZ a) A r M' H locs (F0 m 5 ls []) := by
  intro n
  induction n with
  | zero =>
    intro x1 x2 x3 x4 M H locs ls hf
    exact nomatch (show (none : Res) = some (r, M') from hf)
  | succ n ih =>
    intro x1 x2 x3 x4 M H locs ls hf hst hl
    exact kX9_causeOf_5 C (lX9_causeOf_5 n) ih x1 x2 x3 x4 M H locs ls hf hst hl

set_option maxHeartbeats 4000000 in
set_option maxRecDepth 100000 in
theorem kX9_causeOf_0 {p : Program} {l : Launch} {e : Env} {s : State} {m : MethodId} {args : Array Value} {below : List Frame} {meth : Method} {c : Code} {D : va_G} {cI cZ : ClassId} {a : Nat → Nat} {A : Nat → Prop} {r : Int32} {M' : Mem} (C : Cx p s m args meth c cX9_causeOf 5 RX9 (some .int) D cI cZ A)  (x1 x2 : Int32) (M : Mem) (H : Heap) (locs : List Loc) (ls : Array Slot) (hf : fX9_causeOf x1 x2 M = some (r, M')) (hst : St D (wM cI cZ a) A s.heap H locs M) (hl : lv_has ls 5 [(0, .ref (a 0)), (1, .int x1), (2, .int x2)]) : Wi p l e { frames := 1, cells := 0, slots := 0, locals := 22 } s m args below meth c D (wM cI cZ a) A r M' H locs (F0 m 0 ls []) := by
  unfold fX9_causeOf at hf
  obtain ⟨hx, hb, hml, hown, hU, hr, hlk, hK, hA⟩ := id C
  refine lv_iconst (v := -1) hx hb dX9_causeOf_0 (by decide) ?_
  refine lv_istore_n (lv' := [(3, .int (-1 : Int32)), (0, .ref (a 0)), (1, .int x1), (2, .int x2)]) hx hb dX9_causeOf_1 rfl hl (by decide) rfl (fun ls hl => ?_)
  refine lv_iconst (v := 0) hx hb dX9_causeOf_2 (by decide) ?_
  refine lv_istore (lv' := [(4, .int (0 : Int32)), (3, .int (-1 : Int32)), (0, .ref (a 0)), (1, .int x1), (2, .int x2)]) hx hb dX9_causeOf_3 hl (by decide) rfl (fun ls hl => ?_)
  exact tX9_causeOf_5 C  fu x1 x2 (-1 : Int32) (0 : Int32) M _ _ _ hf hst (lv_sub hl [2, 3, 4, 1, 0] rfl)
set_option maxRecDepth 100000 in
theorem mX9_causeOf (l : Launch) (D : va_G) (cI cZ : ClassId) (a : Nat → Nat) (x1 x2 : Int32) (M : Mem) (r : Int32) (M' : Mem) (hf : fX9_causeOf x1 x2 M = some (r, M')) : MI l D cI cZ (wM cI cZ a) yX9_causeOf cX9_causeOf 5 (some .int) 1 22 [.ref (a 0), .int x1, .int x2] M r M' :=
  MI.of (by decide) (Nat.le_of_ble_eq_true rfl) (fun p e s m args below meth c A C hst ls hl => kX9_causeOf_0 C x1 x2 M s.heap [] ls hf hst hl)

def gX9_cries_61 (K6 : Int32 → Int32 → Int32 → Int32 → Int32 → Mem → Res) (x1 x2 x3 x4 x5 : Int32) (M : Mem) : Res :=
  K6 x1 x2 x3 x4 (x5 + 1) M
def gX9_cries_6 (K6 : Int32 → Int32 → Int32 → Int32 → Int32 → Mem → Res) (x1 x2 x3 x4 x5 : Int32) (M : Mem) : Res :=
  (if (M 0 2) ≤ x5 then (if x4 = 0 then (if (M 0 2) = (100 : Int32) then some (0, M) else if (M 0 2) < 0 ∨ 100 ≤ Int32.toNatClampNeg (M 0 2) then none else if ((upM M 11 (Int32.toNatClampNeg (M 0 2)) x1) 0 2) < 0 ∨ 100 ≤ Int32.toNatClampNeg ((upM M 11 (Int32.toNatClampNeg (M 0 2)) x1) 0 2) then none else if ((upM (upM M 11 (Int32.toNatClampNeg (M 0 2)) x1) 12 (Int32.toNatClampNeg ((upM M 11 (Int32.toNatClampNeg (M 0 2)) x1) 0 2)) x2) 0 2) < 0 ∨ 100 ≤ Int32.toNatClampNeg ((upM (upM M 11 (Int32.toNatClampNeg (M 0 2)) x1) 12 (Int32.toNatClampNeg ((upM M 11 (Int32.toNatClampNeg (M 0 2)) x1) 0 2)) x2) 0 2) then none else if ((upM (upM (upM M 11 (Int32.toNatClampNeg (M 0 2)) x1) 12 (Int32.toNatClampNeg ((upM M 11 (Int32.toNatClampNeg (M 0 2)) x1) 0 2)) x2) 13 (Int32.toNatClampNeg ((upM (upM M 11 (Int32.toNatClampNeg (M 0 2)) x1) 12 (Int32.toNatClampNeg ((upM M 11 (Int32.toNatClampNeg (M 0 2)) x1) 0 2)) x2) 0 2)) x3) 0 2) < 0 ∨ 100 ≤ Int32.toNatClampNeg ((upM (upM (upM M 11 (Int32.toNatClampNeg (M 0 2)) x1) 12 (Int32.toNatClampNeg ((upM M 11 (Int32.toNatClampNeg (M 0 2)) x1) 0 2)) x2) 13 (Int32.toNatClampNeg ((upM (upM M 11 (Int32.toNatClampNeg (M 0 2)) x1) 12 (Int32.toNatClampNeg ((upM M 11 (Int32.toNatClampNeg (M 0 2)) x1) 0 2)) x2) 0 2)) x3) 0 2) then none else if ((upM (upM (upM (upM M 11 (Int32.toNatClampNeg (M 0 2)) x1) 12 (Int32.toNatClampNeg ((upM M 11 (Int32.toNatClampNeg (M 0 2)) x1) 0 2)) x2) 13 (Int32.toNatClampNeg ((upM (upM M 11 (Int32.toNatClampNeg (M 0 2)) x1) 12 (Int32.toNatClampNeg ((upM M 11 (Int32.toNatClampNeg (M 0 2)) x1) 0 2)) x2) 0 2)) x3) 14 (Int32.toNatClampNeg ((upM (upM (upM M 11 (Int32.toNatClampNeg (M 0 2)) x1) 12 (Int32.toNatClampNeg ((upM M 11 (Int32.toNatClampNeg (M 0 2)) x1) 0 2)) x2) 13 (Int32.toNatClampNeg ((upM (upM M 11 (Int32.toNatClampNeg (M 0 2)) x1) 12 (Int32.toNatClampNeg ((upM M 11 (Int32.toNatClampNeg (M 0 2)) x1) 0 2)) x2) 0 2)) x3) 0 2)) x3) 0 2) < 0 ∨ 100 ≤ Int32.toNatClampNeg ((upM (upM (upM (upM M 11 (Int32.toNatClampNeg (M 0 2)) x1) 12 (Int32.toNatClampNeg ((upM M 11 (Int32.toNatClampNeg (M 0 2)) x1) 0 2)) x2) 13 (Int32.toNatClampNeg ((upM (upM M 11 (Int32.toNatClampNeg (M 0 2)) x1) 12 (Int32.toNatClampNeg ((upM M 11 (Int32.toNatClampNeg (M 0 2)) x1) 0 2)) x2) 0 2)) x3) 14 (Int32.toNatClampNeg ((upM (upM (upM M 11 (Int32.toNatClampNeg (M 0 2)) x1) 12 (Int32.toNatClampNeg ((upM M 11 (Int32.toNatClampNeg (M 0 2)) x1) 0 2)) x2) 13 (Int32.toNatClampNeg ((upM (upM M 11 (Int32.toNatClampNeg (M 0 2)) x1) 12 (Int32.toNatClampNeg ((upM M 11 (Int32.toNatClampNeg (M 0 2)) x1) 0 2)) x2) 0 2)) x3) 0 2)) x3) 0 2) then none else some (0, (upM (upM (upM (upM (upM (upM M 11 (Int32.toNatClampNeg (M 0 2)) x1) 12 (Int32.toNatClampNeg ((upM M 11 (Int32.toNatClampNeg (M 0 2)) x1) 0 2)) x2) 13 (Int32.toNatClampNeg ((upM (upM M 11 (Int32.toNatClampNeg (M 0 2)) x1) 12 (Int32.toNatClampNeg ((upM M 11 (Int32.toNatClampNeg (M 0 2)) x1) 0 2)) x2) 0 2)) x3) 14 (Int32.toNatClampNeg ((upM (upM (upM M 11 (Int32.toNatClampNeg (M 0 2)) x1) 12 (Int32.toNatClampNeg ((upM M 11 (Int32.toNatClampNeg (M 0 2)) x1) 0 2)) x2) 13 (Int32.toNatClampNeg ((upM (upM M 11 (Int32.toNatClampNeg (M 0 2)) x1) 12 (Int32.toNatClampNeg ((upM M 11 (Int32.toNatClampNeg (M 0 2)) x1) 0 2)) x2) 0 2)) x3) 0 2)) x3) 15 (Int32.toNatClampNeg ((upM (upM (upM (upM M 11 (Int32.toNatClampNeg (M 0 2)) x1) 12 (Int32.toNatClampNeg ((upM M 11 (Int32.toNatClampNeg (M 0 2)) x1) 0 2)) x2) 13 (Int32.toNatClampNeg ((upM (upM M 11 (Int32.toNatClampNeg (M 0 2)) x1) 12 (Int32.toNatClampNeg ((upM M 11 (Int32.toNatClampNeg (M 0 2)) x1) 0 2)) x2) 0 2)) x3) 14 (Int32.toNatClampNeg ((upM (upM (upM M 11 (Int32.toNatClampNeg (M 0 2)) x1) 12 (Int32.toNatClampNeg ((upM M 11 (Int32.toNatClampNeg (M 0 2)) x1) 0 2)) x2) 13 (Int32.toNatClampNeg ((upM (upM M 11 (Int32.toNatClampNeg (M 0 2)) x1) 12 (Int32.toNatClampNeg ((upM M 11 (Int32.toNatClampNeg (M 0 2)) x1) 0 2)) x2) 0 2)) x3) 0 2)) x3) 0 2)) (1 : Int32)) 0 2 (((upM (upM (upM (upM (upM M 11 (Int32.toNatClampNeg (M 0 2)) x1) 12 (Int32.toNatClampNeg ((upM M 11 (Int32.toNatClampNeg (M 0 2)) x1) 0 2)) x2) 13 (Int32.toNatClampNeg ((upM (upM M 11 (Int32.toNatClampNeg (M 0 2)) x1) 12 (Int32.toNatClampNeg ((upM M 11 (Int32.toNatClampNeg (M 0 2)) x1) 0 2)) x2) 0 2)) x3) 14 (Int32.toNatClampNeg ((upM (upM (upM M 11 (Int32.toNatClampNeg (M 0 2)) x1) 12 (Int32.toNatClampNeg ((upM M 11 (Int32.toNatClampNeg (M 0 2)) x1) 0 2)) x2) 13 (Int32.toNatClampNeg ((upM (upM M 11 (Int32.toNatClampNeg (M 0 2)) x1) 12 (Int32.toNatClampNeg ((upM M 11 (Int32.toNatClampNeg (M 0 2)) x1) 0 2)) x2) 0 2)) x3) 0 2)) x3) 15 (Int32.toNatClampNeg ((upM (upM (upM (upM M 11 (Int32.toNatClampNeg (M 0 2)) x1) 12 (Int32.toNatClampNeg ((upM M 11 (Int32.toNatClampNeg (M 0 2)) x1) 0 2)) x2) 13 (Int32.toNatClampNeg ((upM (upM M 11 (Int32.toNatClampNeg (M 0 2)) x1) 12 (Int32.toNatClampNeg ((upM M 11 (Int32.toNatClampNeg (M 0 2)) x1) 0 2)) x2) 0 2)) x3) 14 (Int32.toNatClampNeg ((upM (upM (upM M 11 (Int32.toNatClampNeg (M 0 2)) x1) 12 (Int32.toNatClampNeg ((upM M 11 (Int32.toNatClampNeg (M 0 2)) x1) 0 2)) x2) 13 (Int32.toNatClampNeg ((upM (upM M 11 (Int32.toNatClampNeg (M 0 2)) x1) 12 (Int32.toNatClampNeg ((upM M 11 (Int32.toNatClampNeg (M 0 2)) x1) 0 2)) x2) 0 2)) x3) 0 2)) x3) 0 2)) (1 : Int32)) 0 2) + (1 : Int32))))) else some (0, M)) else if x5 < 0 ∨ 100 ≤ Int32.toNatClampNeg x5 then none else (if (M 15 (Int32.toNatClampNeg x5)) = 0 then gX9_cries_61 K6 x1 x2 x3 x4 x5 M else (if (M 11 (Int32.toNatClampNeg x5)) = x1 then (if (M 12 (Int32.toNatClampNeg x5)) = x2 then gX9_cries_61 K6 x1 x2 x3 (1 : Int32) x5 (upM M 14 (Int32.toNatClampNeg x5) x3) else gX9_cries_61 K6 x1 x2 x3 x4 x5 M) else gX9_cries_61 K6 x1 x2 x3 x4 x5 M)))
def lX9_cries_6 : Nat → Int32 → Int32 → Int32 → Int32 → Int32 → Mem → Res
  | 0, _, _, _, _, _, _ => none
  | n + 1, x1, x2, x3, x4, x5, M => gX9_cries_6 (lX9_cries_6 n) x1 x2 x3 x4 x5 M
def fX9_cries (x1 x2 x3 : Int32) (M : Mem) : Res :=
  lX9_cries_6  fu x1 x2 x3 (0 : Int32) (0 : Int32) M
theorem calX9_cries : Cal yX9_cries cX9_cries 6 none 3 := ⟨(mU3 223 rfl rfl), (mU1 10 rfl rfl), by decide +kernel⟩
theorem cavX9_cries : CalV yX9_cries := ⟨(mU3 222 rfl rfl), (mS2 5 rfl)⟩
set_option maxHeartbeats 4000000 in
set_option maxRecDepth 100000 in
theorem kX9_cries_61 {p : Program} {l : Launch} {e : Env} {s : State} {m : MethodId} {args : Array Value} {below : List Frame} {meth : Method} {c : Code} {D : va_G} {cI cZ : ClassId} {a : Nat → Nat} {A : Nat → Prop} {r : Int32} {M' : Mem} (C : Cx p s m args meth c cX9_cries 6 RX9 none D cI cZ A) (K6 : Int32 → Int32 → Int32 → Int32 → Int32 → Mem → Res) (hK6 : ∀ (x1 x2 x3 x4 x5 : Int32) (M : Mem) (H : Heap) (locs : List Loc) (ls : Array Slot), K6 x1 x2 x3 x4 x5 M = some (r, M') → St D (wM cI cZ a) A s.heap H locs M → lv_has ls 6 [(0, .ref (a 0)), (1, .int x1), (2, .int x2), (3, .int x3), (4, .int x4), (5, .int x5)] → Wv p l e { frames := 0, cells := 0, slots := 0, locals := 0 } s m args below meth c D (wM cI cZ a) A M' H locs (F0 m 6 ls [])) (x1 x2 x3 x4 x5 : Int32) (M : Mem) (H : Heap) (locs : List Loc) (ls : Array Slot) (hf : gX9_cries_61 K6 x1 x2 x3 x4 x5 M = some (r, M')) (hst : St D (wM cI cZ a) A s.heap H locs M) (hl : lv_has ls 6 [(0, .ref (a 0)), (1, .int x1), (2, .int x2), (3, .int x3), (4, .int x4), (5, .int x5)]) : Wv p l e { frames := 0, cells := 0, slots := 0, locals := 0 } s m args below meth c D (wM cI cZ a) A M' H locs (F0 m 61 ls []) := by
  unfold gX9_cries_61 at hf
  obtain ⟨hx, hb, hml, hown, hU, hr, hlk, hK, hA⟩ := id C
  refine lv_iinc (v := (x5 + 1)) (lv' := [(5, .int (x5 + 1)), (0, .ref (a 0)), (1, .int x1), (2, .int x2), (3, .int x3), (4, .int x4)]) hx hb dX9_cries_61 hl (k := 5) rfl rfl (by decide) rfl (fun ls hl => ?_)
  refine lv_goto (tgt := 6) hx hb dX9_cries_64 (by decide) ?_
  exact hK6 x1 x2 x3 x4 (x5 + 1) M _ _ _ hf hst (lv_sub hl [1, 2, 3, 4, 5, 0] rfl)
set_option maxHeartbeats 4000000 in
set_option maxRecDepth 100000 in
theorem kX9_cries_6 {p : Program} {l : Launch} {e : Env} {s : State} {m : MethodId} {args : Array Value} {below : List Frame} {meth : Method} {c : Code} {D : va_G} {cI cZ : ClassId} {a : Nat → Nat} {A : Nat → Prop} {r : Int32} {M' : Mem} (C : Cx p s m args meth c cX9_cries 6 RX9 none D cI cZ A) (K6 : Int32 → Int32 → Int32 → Int32 → Int32 → Mem → Res) (hK6 : ∀ (x1 x2 x3 x4 x5 : Int32) (M : Mem) (H : Heap) (locs : List Loc) (ls : Array Slot), K6 x1 x2 x3 x4 x5 M = some (r, M') → St D (wM cI cZ a) A s.heap H locs M → lv_has ls 6 [(0, .ref (a 0)), (1, .int x1), (2, .int x2), (3, .int x3), (4, .int x4), (5, .int x5)] → Wv p l e { frames := 0, cells := 0, slots := 0, locals := 0 } s m args below meth c D (wM cI cZ a) A M' H locs (F0 m 6 ls [])) (x1 x2 x3 x4 x5 : Int32) (M : Mem) (H : Heap) (locs : List Loc) (ls : Array Slot) (hf : gX9_cries_6 K6 x1 x2 x3 x4 x5 M = some (r, M')) (hst : St D (wM cI cZ a) A s.heap H locs M) (hl : lv_has ls 6 [(0, .ref (a 0)), (1, .int x1), (2, .int x2), (3, .int x3), (4, .int x4), (5, .int x5)]) : Wv p l e { frames := 0, cells := 0, slots := 0, locals := 0 } s m args below meth c D (wM cI cZ a) A M' H locs (F0 m 6 ls []) := by
  unfold gX9_cries_6 at hf
  obtain ⟨hx, hb, hml, hown, hU, hr, hlk, hK, hA⟩ := id C
  refine lv_iload hx hb dX9_cries_6 (lv_at hl 5 rfl) ?_
  refine lv_aload_n hx hb dX9_cries_8 rfl (lv_at hl 0 rfl) ?_
  refine gf_X9_131 C hst dX9_cries_9 ?_
  refine lv_icmp_ge (tgt := 67) hx hb dX9_cries_12 (by decide) (fun c_12 => ?_) (fun c_12 => ?_)
  · have hf := ifp c_12 hf
    refine lv_iload hx hb dX9_cries_67 (lv_at hl 4 rfl) ?_
    refine lv_if_ne (tgt := 81) hx hb dX9_cries_69 (by decide) (fun c_69 => ?_) (fun c_69 => ?_)
    · have hf := ifn c_69 hf
      obtain ⟨e1, e2⟩ := sinj hf
      subst e1
      subst e2
      exact w_vret C hst dX9_cries_81
    · have hf := ifp c_69 hf
      refine lv_aload_n hx hb dX9_cries_72 rfl (lv_at hl 0 rfl) ?_
      refine gf_X9_131 C hst dX9_cries_73 ?_
      refine lv_bipush (v := 100) hx hb dX9_cries_76 (by decide) ?_
      refine lv_icmp_ne (tgt := 82) hx hb dX9_cries_78 (by decide) (fun c_78 => ?_) (fun c_78 => ?_)
      · have hf := ifn c_78 hf
        refine lv_aload_n hx hb dX9_cries_82 rfl (lv_at hl 0 rfl) ?_
        refine gf_X9_45 C hst dX9_cries_83 ?_
        refine lv_aload_n hx hb dX9_cries_86 rfl (lv_at hl 0 rfl) ?_
        refine gf_X9_131 C hst dX9_cries_87 ?_
        refine lv_iload_n hx hb dX9_cries_90 rfl (lv_at hl 1 rfl) ?_
        obtain ⟨h_91, hf⟩ := og hf
        refine w_iast (N := 100) (f := M 11) (M' := (upM M 11 (Int32.toNatClampNeg (M 0 2)) x1)) C hst 11 rfl (wM_set11 cI cZ a M (Int32.toNatClampNeg (M 0 2)) x1) h_91 dX9_cries_91 (fun H locs hst => ?_)
        refine lv_aload_n hx hb dX9_cries_92 rfl (lv_at hl 0 rfl) ?_
        refine gf_X9_48 C hst dX9_cries_93 ?_
        refine lv_aload_n hx hb dX9_cries_96 rfl (lv_at hl 0 rfl) ?_
        refine gf_X9_131 C hst dX9_cries_97 ?_
        refine lv_iload_n hx hb dX9_cries_100 rfl (lv_at hl 2 rfl) ?_
        obtain ⟨h_101, hf⟩ := og hf
        refine w_iast (N := 100) (f := (upM M 11 (Int32.toNatClampNeg (M 0 2)) x1) 12) (M' := (upM (upM M 11 (Int32.toNatClampNeg (M 0 2)) x1) 12 (Int32.toNatClampNeg ((upM M 11 (Int32.toNatClampNeg (M 0 2)) x1) 0 2)) x2)) C hst 12 rfl (wM_set12 cI cZ a (upM M 11 (Int32.toNatClampNeg (M 0 2)) x1) (Int32.toNatClampNeg ((upM M 11 (Int32.toNatClampNeg (M 0 2)) x1) 0 2)) x2) h_101 dX9_cries_101 (fun H locs hst => ?_)
        refine lv_aload_n hx hb dX9_cries_102 rfl (lv_at hl 0 rfl) ?_
        refine gf_X9_51 C hst dX9_cries_103 ?_
        refine lv_aload_n hx hb dX9_cries_106 rfl (lv_at hl 0 rfl) ?_
        refine gf_X9_131 C hst dX9_cries_107 ?_
        refine lv_iload_n hx hb dX9_cries_110 rfl (lv_at hl 3 rfl) ?_
        obtain ⟨h_111, hf⟩ := og hf
        refine w_iast (N := 100) (f := (upM (upM M 11 (Int32.toNatClampNeg (M 0 2)) x1) 12 (Int32.toNatClampNeg ((upM M 11 (Int32.toNatClampNeg (M 0 2)) x1) 0 2)) x2) 13) (M' := (upM (upM (upM M 11 (Int32.toNatClampNeg (M 0 2)) x1) 12 (Int32.toNatClampNeg ((upM M 11 (Int32.toNatClampNeg (M 0 2)) x1) 0 2)) x2) 13 (Int32.toNatClampNeg ((upM (upM M 11 (Int32.toNatClampNeg (M 0 2)) x1) 12 (Int32.toNatClampNeg ((upM M 11 (Int32.toNatClampNeg (M 0 2)) x1) 0 2)) x2) 0 2)) x3)) C hst 13 rfl (wM_set13 cI cZ a (upM (upM M 11 (Int32.toNatClampNeg (M 0 2)) x1) 12 (Int32.toNatClampNeg ((upM M 11 (Int32.toNatClampNeg (M 0 2)) x1) 0 2)) x2) (Int32.toNatClampNeg ((upM (upM M 11 (Int32.toNatClampNeg (M 0 2)) x1) 12 (Int32.toNatClampNeg ((upM M 11 (Int32.toNatClampNeg (M 0 2)) x1) 0 2)) x2) 0 2)) x3) h_111 dX9_cries_111 (fun H locs hst => ?_)
        refine lv_aload_n hx hb dX9_cries_112 rfl (lv_at hl 0 rfl) ?_
        refine gf_X9_54 C hst dX9_cries_113 ?_
        refine lv_aload_n hx hb dX9_cries_116 rfl (lv_at hl 0 rfl) ?_
        refine gf_X9_131 C hst dX9_cries_117 ?_
        refine lv_iload_n hx hb dX9_cries_120 rfl (lv_at hl 3 rfl) ?_
        obtain ⟨h_121, hf⟩ := og hf
        refine w_iast (N := 100) (f := (upM (upM (upM M 11 (Int32.toNatClampNeg (M 0 2)) x1) 12 (Int32.toNatClampNeg ((upM M 11 (Int32.toNatClampNeg (M 0 2)) x1) 0 2)) x2) 13 (Int32.toNatClampNeg ((upM (upM M 11 (Int32.toNatClampNeg (M 0 2)) x1) 12 (Int32.toNatClampNeg ((upM M 11 (Int32.toNatClampNeg (M 0 2)) x1) 0 2)) x2) 0 2)) x3) 14) (M' := (upM (upM (upM (upM M 11 (Int32.toNatClampNeg (M 0 2)) x1) 12 (Int32.toNatClampNeg ((upM M 11 (Int32.toNatClampNeg (M 0 2)) x1) 0 2)) x2) 13 (Int32.toNatClampNeg ((upM (upM M 11 (Int32.toNatClampNeg (M 0 2)) x1) 12 (Int32.toNatClampNeg ((upM M 11 (Int32.toNatClampNeg (M 0 2)) x1) 0 2)) x2) 0 2)) x3) 14 (Int32.toNatClampNeg ((upM (upM (upM M 11 (Int32.toNatClampNeg (M 0 2)) x1) 12 (Int32.toNatClampNeg ((upM M 11 (Int32.toNatClampNeg (M 0 2)) x1) 0 2)) x2) 13 (Int32.toNatClampNeg ((upM (upM M 11 (Int32.toNatClampNeg (M 0 2)) x1) 12 (Int32.toNatClampNeg ((upM M 11 (Int32.toNatClampNeg (M 0 2)) x1) 0 2)) x2) 0 2)) x3) 0 2)) x3)) C hst 14 rfl (wM_set14 cI cZ a (upM (upM (upM M 11 (Int32.toNatClampNeg (M 0 2)) x1) 12 (Int32.toNatClampNeg ((upM M 11 (Int32.toNatClampNeg (M 0 2)) x1) 0 2)) x2) 13 (Int32.toNatClampNeg ((upM (upM M 11 (Int32.toNatClampNeg (M 0 2)) x1) 12 (Int32.toNatClampNeg ((upM M 11 (Int32.toNatClampNeg (M 0 2)) x1) 0 2)) x2) 0 2)) x3) (Int32.toNatClampNeg ((upM (upM (upM M 11 (Int32.toNatClampNeg (M 0 2)) x1) 12 (Int32.toNatClampNeg ((upM M 11 (Int32.toNatClampNeg (M 0 2)) x1) 0 2)) x2) 13 (Int32.toNatClampNeg ((upM (upM M 11 (Int32.toNatClampNeg (M 0 2)) x1) 12 (Int32.toNatClampNeg ((upM M 11 (Int32.toNatClampNeg (M 0 2)) x1) 0 2)) x2) 0 2)) x3) 0 2)) x3) h_121 dX9_cries_121 (fun H locs hst => ?_)
        refine lv_aload_n hx hb dX9_cries_122 rfl (lv_at hl 0 rfl) ?_
        refine gf_X9_57 C hst dX9_cries_123 ?_
        refine lv_aload_n hx hb dX9_cries_126 rfl (lv_at hl 0 rfl) ?_
        refine gf_X9_131 C hst dX9_cries_127 ?_
        refine lv_iconst (v := 1) hx hb dX9_cries_130 (by decide) ?_
        obtain ⟨h_131, hf⟩ := og hf
        refine w_zast (N := 100) (f := (upM (upM (upM (upM M 11 (Int32.toNatClampNeg (M 0 2)) x1) 12 (Int32.toNatClampNeg ((upM M 11 (Int32.toNatClampNeg (M 0 2)) x1) 0 2)) x2) 13 (Int32.toNatClampNeg ((upM (upM M 11 (Int32.toNatClampNeg (M 0 2)) x1) 12 (Int32.toNatClampNeg ((upM M 11 (Int32.toNatClampNeg (M 0 2)) x1) 0 2)) x2) 0 2)) x3) 14 (Int32.toNatClampNeg ((upM (upM (upM M 11 (Int32.toNatClampNeg (M 0 2)) x1) 12 (Int32.toNatClampNeg ((upM M 11 (Int32.toNatClampNeg (M 0 2)) x1) 0 2)) x2) 13 (Int32.toNatClampNeg ((upM (upM M 11 (Int32.toNatClampNeg (M 0 2)) x1) 12 (Int32.toNatClampNeg ((upM M 11 (Int32.toNatClampNeg (M 0 2)) x1) 0 2)) x2) 0 2)) x3) 0 2)) x3) 15) (M' := (upM (upM (upM (upM (upM M 11 (Int32.toNatClampNeg (M 0 2)) x1) 12 (Int32.toNatClampNeg ((upM M 11 (Int32.toNatClampNeg (M 0 2)) x1) 0 2)) x2) 13 (Int32.toNatClampNeg ((upM (upM M 11 (Int32.toNatClampNeg (M 0 2)) x1) 12 (Int32.toNatClampNeg ((upM M 11 (Int32.toNatClampNeg (M 0 2)) x1) 0 2)) x2) 0 2)) x3) 14 (Int32.toNatClampNeg ((upM (upM (upM M 11 (Int32.toNatClampNeg (M 0 2)) x1) 12 (Int32.toNatClampNeg ((upM M 11 (Int32.toNatClampNeg (M 0 2)) x1) 0 2)) x2) 13 (Int32.toNatClampNeg ((upM (upM M 11 (Int32.toNatClampNeg (M 0 2)) x1) 12 (Int32.toNatClampNeg ((upM M 11 (Int32.toNatClampNeg (M 0 2)) x1) 0 2)) x2) 0 2)) x3) 0 2)) x3) 15 (Int32.toNatClampNeg ((upM (upM (upM (upM M 11 (Int32.toNatClampNeg (M 0 2)) x1) 12 (Int32.toNatClampNeg ((upM M 11 (Int32.toNatClampNeg (M 0 2)) x1) 0 2)) x2) 13 (Int32.toNatClampNeg ((upM (upM M 11 (Int32.toNatClampNeg (M 0 2)) x1) 12 (Int32.toNatClampNeg ((upM M 11 (Int32.toNatClampNeg (M 0 2)) x1) 0 2)) x2) 0 2)) x3) 14 (Int32.toNatClampNeg ((upM (upM (upM M 11 (Int32.toNatClampNeg (M 0 2)) x1) 12 (Int32.toNatClampNeg ((upM M 11 (Int32.toNatClampNeg (M 0 2)) x1) 0 2)) x2) 13 (Int32.toNatClampNeg ((upM (upM M 11 (Int32.toNatClampNeg (M 0 2)) x1) 12 (Int32.toNatClampNeg ((upM M 11 (Int32.toNatClampNeg (M 0 2)) x1) 0 2)) x2) 0 2)) x3) 0 2)) x3) 0 2)) (1 : Int32))) C hst 15 rfl rfl (wM_set15 cI cZ a (upM (upM (upM (upM M 11 (Int32.toNatClampNeg (M 0 2)) x1) 12 (Int32.toNatClampNeg ((upM M 11 (Int32.toNatClampNeg (M 0 2)) x1) 0 2)) x2) 13 (Int32.toNatClampNeg ((upM (upM M 11 (Int32.toNatClampNeg (M 0 2)) x1) 12 (Int32.toNatClampNeg ((upM M 11 (Int32.toNatClampNeg (M 0 2)) x1) 0 2)) x2) 0 2)) x3) 14 (Int32.toNatClampNeg ((upM (upM (upM M 11 (Int32.toNatClampNeg (M 0 2)) x1) 12 (Int32.toNatClampNeg ((upM M 11 (Int32.toNatClampNeg (M 0 2)) x1) 0 2)) x2) 13 (Int32.toNatClampNeg ((upM (upM M 11 (Int32.toNatClampNeg (M 0 2)) x1) 12 (Int32.toNatClampNeg ((upM M 11 (Int32.toNatClampNeg (M 0 2)) x1) 0 2)) x2) 0 2)) x3) 0 2)) x3) (Int32.toNatClampNeg ((upM (upM (upM (upM M 11 (Int32.toNatClampNeg (M 0 2)) x1) 12 (Int32.toNatClampNeg ((upM M 11 (Int32.toNatClampNeg (M 0 2)) x1) 0 2)) x2) 13 (Int32.toNatClampNeg ((upM (upM M 11 (Int32.toNatClampNeg (M 0 2)) x1) 12 (Int32.toNatClampNeg ((upM M 11 (Int32.toNatClampNeg (M 0 2)) x1) 0 2)) x2) 0 2)) x3) 14 (Int32.toNatClampNeg ((upM (upM (upM M 11 (Int32.toNatClampNeg (M 0 2)) x1) 12 (Int32.toNatClampNeg ((upM M 11 (Int32.toNatClampNeg (M 0 2)) x1) 0 2)) x2) 13 (Int32.toNatClampNeg ((upM (upM M 11 (Int32.toNatClampNeg (M 0 2)) x1) 12 (Int32.toNatClampNeg ((upM M 11 (Int32.toNatClampNeg (M 0 2)) x1) 0 2)) x2) 0 2)) x3) 0 2)) x3) 0 2)) (1 : Int32)) h_131 dX9_cries_131 (fun H locs hst => ?_)
        refine lv_aload_n hx hb dX9_cries_132 rfl (lv_at hl 0 rfl) ?_
        refine lv_dup hx hb dX9_cries_133 rfl ?_
        refine gf_X9_131 C hst dX9_cries_134 ?_
        refine lv_iconst (v := 1) hx hb dX9_cries_137 (by decide) ?_
        refine lv_iadd hx hb dX9_cries_138 ?_
        refine pf_X9_131 C hst dX9_cries_139 (fun H locs hst => ?_)
        obtain ⟨e1, e2⟩ := sinj hf
        subst e1
        subst e2
        exact w_vret C hst dX9_cries_142
      · have hf := ifp c_78 hf
        obtain ⟨e1, e2⟩ := sinj hf
        subst e1
        subst e2
        exact w_vret C hst dX9_cries_81
  · have hf := ifn c_12 hf
    refine lv_aload_n hx hb dX9_cries_15 rfl (lv_at hl 0 rfl) ?_
    refine gf_X9_57 C hst dX9_cries_16 ?_
    refine lv_iload hx hb dX9_cries_19 (lv_at hl 5 rfl) ?_
    obtain ⟨h_21, hf⟩ := og hf
    refine w_zald (N := 100) (f := M 15) C hst 15 rfl h_21 dX9_cries_21 ?_
    refine lv_if_eq (tgt := 61) hx hb dX9_cries_22 (by decide) (fun c_22 => ?_) (fun c_22 => ?_)
    · have hf := ifp c_22 hf
      exact kX9_cries_61 C K6 hK6 x1 x2 x3 x4 x5 M _ _ _ hf hst (lv_sub hl [0, 1, 2, 3, 4, 5] rfl)
    · have hf := ifn c_22 hf
      refine lv_aload_n hx hb dX9_cries_25 rfl (lv_at hl 0 rfl) ?_
      refine gf_X9_45 C hst dX9_cries_26 ?_
      refine lv_iload hx hb dX9_cries_29 (lv_at hl 5 rfl) ?_
      refine w_iald (N := 100) (f := M 11) C hst 11 rfl h_21 dX9_cries_31 ?_
      refine lv_iload_n hx hb dX9_cries_32 rfl (lv_at hl 1 rfl) ?_
      refine lv_icmp_ne (tgt := 61) hx hb dX9_cries_33 (by decide) (fun c_33 => ?_) (fun c_33 => ?_)
      · have hf := ifn c_33 hf
        exact kX9_cries_61 C K6 hK6 x1 x2 x3 x4 x5 M _ _ _ hf hst (lv_sub hl [0, 1, 2, 3, 4, 5] rfl)
      · have hf := ifp c_33 hf
        refine lv_aload_n hx hb dX9_cries_36 rfl (lv_at hl 0 rfl) ?_
        refine gf_X9_48 C hst dX9_cries_37 ?_
        refine lv_iload hx hb dX9_cries_40 (lv_at hl 5 rfl) ?_
        refine w_iald (N := 100) (f := M 12) C hst 12 rfl h_21 dX9_cries_42 ?_
        refine lv_iload_n hx hb dX9_cries_43 rfl (lv_at hl 2 rfl) ?_
        refine lv_icmp_eq (tgt := 50) hx hb dX9_cries_44 (by decide) (fun c_44 => ?_) (fun c_44 => ?_)
        · have hf := ifp c_44 hf
          refine lv_aload_n hx hb dX9_cries_50 rfl (lv_at hl 0 rfl) ?_
          refine gf_X9_54 C hst dX9_cries_51 ?_
          refine lv_iload hx hb dX9_cries_54 (lv_at hl 5 rfl) ?_
          refine lv_iload_n hx hb dX9_cries_56 rfl (lv_at hl 3 rfl) ?_
          refine w_iast (N := 100) (f := M 14) (M' := (upM M 14 (Int32.toNatClampNeg x5) x3)) C hst 14 rfl (wM_set14 cI cZ a M (Int32.toNatClampNeg x5) x3) h_21 dX9_cries_57 (fun H locs hst => ?_)
          refine lv_iconst (v := 1) hx hb dX9_cries_58 (by decide) ?_
          refine lv_istore (lv' := [(4, .int (1 : Int32)), (0, .ref (a 0)), (1, .int x1), (2, .int x2), (3, .int x3), (5, .int x5)]) hx hb dX9_cries_59 hl (by decide) rfl (fun ls hl => ?_)
          exact kX9_cries_61 C K6 hK6 x1 x2 x3 (1 : Int32) x5 (upM M 14 (Int32.toNatClampNeg x5) x3) _ _ _ hf hst (lv_sub hl [1, 2, 3, 4, 0, 5] rfl)
        · have hf := ifn c_44 hf
          refine lv_goto (tgt := 61) hx hb dX9_cries_47 (by decide) ?_
          exact kX9_cries_61 C K6 hK6 x1 x2 x3 x4 x5 M _ _ _ hf hst (lv_sub hl [0, 1, 2, 3, 4, 5] rfl)
theorem tX9_cries_6 {p : Program} {l : Launch} {e : Env} {s : State} {m : MethodId} {args : Array Value} {below : List Frame} {meth : Method} {c : Code} {D : va_G} {cI cZ : ClassId} {a : Nat → Nat} {A : Nat → Prop} {r : Int32} {M' : Mem} (C : Cx p s m args meth c cX9_cries 6 RX9 none D cI cZ A)  : ∀ (n : Nat) (x1 x2 x3 x4 x5 : Int32) (M : Mem) (H : Heap) (locs : List Loc) (ls : Array Slot), lX9_cries_6 n x1 x2 x3 x4 x5 M = some (r, M') → St D (wM cI cZ a) A s.heap H locs M → lv_has ls 6 [(0, .ref (a 0)), (1, .int x1), (2, .int x2), (3, .int x3), (4, .int x4), (5, .int x5)] → Wv p l e { frames := 0, cells := 0, slots := 0, locals := 0 } s m args below meth c D (wM cI cZ a) A M' H locs (F0 m 6 ls []) := by
  intro n
  induction n with
  | zero =>
    intro x1 x2 x3 x4 x5 M H locs ls hf
    exact nomatch (show (none : Res) = some (r, M') from hf)
  | succ n ih =>
    intro x1 x2 x3 x4 x5 M H locs ls hf hst hl
    exact kX9_cries_6 C (lX9_cries_6 n) ih x1 x2 x3 x4 x5 M H locs ls hf hst hl

set_option maxHeartbeats 4000000 in
set_option maxRecDepth 100000 in
theorem kX9_cries_0 {p : Program} {l : Launch} {e : Env} {s : State} {m : MethodId} {args : Array Value} {below : List Frame} {meth : Method} {c : Code} {D : va_G} {cI cZ : ClassId} {a : Nat → Nat} {A : Nat → Prop} {r : Int32} {M' : Mem} (C : Cx p s m args meth c cX9_cries 6 RX9 none D cI cZ A)  (x1 x2 x3 : Int32) (M : Mem) (H : Heap) (locs : List Loc) (ls : Array Slot) (hf : fX9_cries x1 x2 x3 M = some (r, M')) (hst : St D (wM cI cZ a) A s.heap H locs M) (hl : lv_has ls 6 [(0, .ref (a 0)), (1, .int x1), (2, .int x2), (3, .int x3)]) : Wv p l e { frames := 0, cells := 0, slots := 0, locals := 0 } s m args below meth c D (wM cI cZ a) A M' H locs (F0 m 0 ls []) := by
  unfold fX9_cries at hf
  obtain ⟨hx, hb, hml, hown, hU, hr, hlk, hK, hA⟩ := id C
  refine lv_iconst (v := 0) hx hb dX9_cries_0 (by decide) ?_
  refine lv_istore (lv' := [(4, .int (0 : Int32)), (0, .ref (a 0)), (1, .int x1), (2, .int x2), (3, .int x3)]) hx hb dX9_cries_1 hl (by decide) rfl (fun ls hl => ?_)
  refine lv_iconst (v := 0) hx hb dX9_cries_3 (by decide) ?_
  refine lv_istore (lv' := [(5, .int (0 : Int32)), (4, .int (0 : Int32)), (0, .ref (a 0)), (1, .int x1), (2, .int x2), (3, .int x3)]) hx hb dX9_cries_4 hl (by decide) rfl (fun ls hl => ?_)
  exact tX9_cries_6 C  fu x1 x2 x3 (0 : Int32) (0 : Int32) M _ _ _ hf hst (lv_sub hl [2, 3, 4, 5, 1, 0] rfl)
set_option maxRecDepth 100000 in
theorem mX9_cries (l : Launch) (D : va_G) (cI cZ : ClassId) (a : Nat → Nat) (x1 x2 x3 : Int32) (M : Mem) (r : Int32) (M' : Mem) (hf : fX9_cries x1 x2 x3 M = some (r, M')) : MV l D cI cZ (wM cI cZ a) yX9_cries cX9_cries 6 0 0 [.ref (a 0), .int x1, .int x2, .int x3] M M' :=
  MV.of (by decide) (Nat.le_of_ble_eq_true rfl) (fun p e s m args below meth c A C hst ls hl => kX9_cries_0 C x1 x2 x3 M s.heap [] ls hf hst hl)

def gX9_looks_61 (K23 : Int32 → Int32 → Int32 → Mem → Res) (x1 x2 x3 : Int32) (M : Mem) : Res :=
  K23 x1 x2 (x3 + 1) M
def gX9_looks_23 (K23 : Int32 → Int32 → Int32 → Mem → Res) (x1 x2 x3 : Int32) (M : Mem) : Res :=
  (if (M 0 2) ≤ x3 then some (0, M) else if x3 < 0 ∨ 100 ≤ Int32.toNatClampNeg x3 then none else (if (M 11 (Int32.toNatClampNeg x3)) = x1 then (if x2 < ((M 14 (Int32.toNatClampNeg x3)) + (6 : Int32)) then gX9_looks_61 K23 x1 x2 x3 M else gX9_looks_61 K23 x1 x2 x3 (upM M 15 (Int32.toNatClampNeg x3) (0 : Int32))) else gX9_looks_61 K23 x1 x2 x3 M))
def lX9_looks_23 : Nat → Int32 → Int32 → Int32 → Mem → Res
  | 0, _, _, _, _ => none
  | n + 1, x1, x2, x3, M => gX9_looks_23 (lX9_looks_23 n) x1 x2 x3 M
def gX9_looks_21 (x1 x2 : Int32) (M : Mem) : Res :=
  lX9_looks_23  fu x1 x2 (0 : Int32) M
def fX9_looks (x1 x2 : Int32) (M : Mem) : Res :=
  obi (fX9_jumps x1 x2 M) (fun r_3 M_3 => (if r_3 = 0 then gX9_looks_21  x1 x2 M_3 else obi (fX9_causeOf x1 x2 M_3) (fun r_14 M_14 => obi (fX9_cries x1 r_14 x2 M_14) (fun r_18 M_18 => gX9_looks_21  x1 x2 M_18))))
theorem calX9_looks : Cal yX9_looks cX9_looks 4 none 2 := ⟨(mU3 215 rfl rfl), (mU1 10 rfl rfl), by decide +kernel⟩
theorem cavX9_looks : CalV yX9_looks := ⟨(mU3 214 rfl rfl), (mS2 3 rfl)⟩
set_option maxHeartbeats 4000000 in
set_option maxRecDepth 100000 in
theorem kX9_looks_61 {p : Program} {l : Launch} {e : Env} {s : State} {m : MethodId} {args : Array Value} {below : List Frame} {meth : Method} {c : Code} {D : va_G} {cI cZ : ClassId} {a : Nat → Nat} {A : Nat → Prop} {r : Int32} {M' : Mem} (C : Cx p s m args meth c cX9_looks 4 RX9 none D cI cZ A) (K23 : Int32 → Int32 → Int32 → Mem → Res) (hK23 : ∀ (x1 x2 x3 : Int32) (M : Mem) (H : Heap) (locs : List Loc) (ls : Array Slot), K23 x1 x2 x3 M = some (r, M') → St D (wM cI cZ a) A s.heap H locs M → lv_has ls 4 [(0, .ref (a 0)), (1, .int x1), (2, .int x2), (3, .int x3)] → Wv p l e { frames := 4, cells := 0, slots := 0, locals := 92 } s m args below meth c D (wM cI cZ a) A M' H locs (F0 m 23 ls [])) (x1 x2 x3 : Int32) (M : Mem) (H : Heap) (locs : List Loc) (ls : Array Slot) (hf : gX9_looks_61 K23 x1 x2 x3 M = some (r, M')) (hst : St D (wM cI cZ a) A s.heap H locs M) (hl : lv_has ls 4 [(0, .ref (a 0)), (1, .int x1), (2, .int x2), (3, .int x3)]) : Wv p l e { frames := 4, cells := 0, slots := 0, locals := 92 } s m args below meth c D (wM cI cZ a) A M' H locs (F0 m 61 ls []) := by
  unfold gX9_looks_61 at hf
  obtain ⟨hx, hb, hml, hown, hU, hr, hlk, hK, hA⟩ := id C
  refine lv_iinc (v := (x3 + 1)) (lv' := [(3, .int (x3 + 1)), (0, .ref (a 0)), (1, .int x1), (2, .int x2)]) hx hb dX9_looks_61 hl (k := 3) rfl rfl (by decide) rfl (fun ls hl => ?_)
  refine lv_goto (tgt := 23) hx hb dX9_looks_64 (by decide) ?_
  exact hK23 x1 x2 (x3 + 1) M _ _ _ hf hst (lv_sub hl [1, 2, 3, 0] rfl)
set_option maxHeartbeats 4000000 in
set_option maxRecDepth 100000 in
theorem kX9_looks_23 {p : Program} {l : Launch} {e : Env} {s : State} {m : MethodId} {args : Array Value} {below : List Frame} {meth : Method} {c : Code} {D : va_G} {cI cZ : ClassId} {a : Nat → Nat} {A : Nat → Prop} {r : Int32} {M' : Mem} (C : Cx p s m args meth c cX9_looks 4 RX9 none D cI cZ A) (K23 : Int32 → Int32 → Int32 → Mem → Res) (hK23 : ∀ (x1 x2 x3 : Int32) (M : Mem) (H : Heap) (locs : List Loc) (ls : Array Slot), K23 x1 x2 x3 M = some (r, M') → St D (wM cI cZ a) A s.heap H locs M → lv_has ls 4 [(0, .ref (a 0)), (1, .int x1), (2, .int x2), (3, .int x3)] → Wv p l e { frames := 4, cells := 0, slots := 0, locals := 92 } s m args below meth c D (wM cI cZ a) A M' H locs (F0 m 23 ls [])) (x1 x2 x3 : Int32) (M : Mem) (H : Heap) (locs : List Loc) (ls : Array Slot) (hf : gX9_looks_23 K23 x1 x2 x3 M = some (r, M')) (hst : St D (wM cI cZ a) A s.heap H locs M) (hl : lv_has ls 4 [(0, .ref (a 0)), (1, .int x1), (2, .int x2), (3, .int x3)]) : Wv p l e { frames := 4, cells := 0, slots := 0, locals := 92 } s m args below meth c D (wM cI cZ a) A M' H locs (F0 m 23 ls []) := by
  unfold gX9_looks_23 at hf
  obtain ⟨hx, hb, hml, hown, hU, hr, hlk, hK, hA⟩ := id C
  refine lv_iload_n hx hb dX9_looks_23 rfl (lv_at hl 3 rfl) ?_
  refine lv_aload_n hx hb dX9_looks_24 rfl (lv_at hl 0 rfl) ?_
  refine gf_X9_131 C hst dX9_looks_25 ?_
  refine lv_icmp_ge (tgt := 67) hx hb dX9_looks_28 (by decide) (fun c_28 => ?_) (fun c_28 => ?_)
  · have hf := ifp c_28 hf
    obtain ⟨e1, e2⟩ := sinj hf
    subst e1
    subst e2
    exact w_vret C hst dX9_looks_67
  · have hf := ifn c_28 hf
    refine lv_aload_n hx hb dX9_looks_31 rfl (lv_at hl 0 rfl) ?_
    refine gf_X9_45 C hst dX9_looks_32 ?_
    refine lv_iload_n hx hb dX9_looks_35 rfl (lv_at hl 3 rfl) ?_
    obtain ⟨h_36, hf⟩ := og hf
    refine w_iald (N := 100) (f := M 11) C hst 11 rfl h_36 dX9_looks_36 ?_
    refine lv_iload_n hx hb dX9_looks_37 rfl (lv_at hl 1 rfl) ?_
    refine lv_icmp_ne (tgt := 61) hx hb dX9_looks_38 (by decide) (fun c_38 => ?_) (fun c_38 => ?_)
    · have hf := ifn c_38 hf
      exact kX9_looks_61 C K23 hK23 x1 x2 x3 M _ _ _ hf hst (lv_sub hl [0, 1, 2, 3] rfl)
    · have hf := ifp c_38 hf
      refine lv_iload_n hx hb dX9_looks_41 rfl (lv_at hl 2 rfl) ?_
      refine lv_aload_n hx hb dX9_looks_42 rfl (lv_at hl 0 rfl) ?_
      refine gf_X9_54 C hst dX9_looks_43 ?_
      refine lv_iload_n hx hb dX9_looks_46 rfl (lv_at hl 3 rfl) ?_
      refine w_iald (N := 100) (f := M 14) C hst 14 rfl h_36 dX9_looks_47 ?_
      refine lv_bipush (v := 6) hx hb dX9_looks_48 (by decide) ?_
      refine lv_iadd hx hb dX9_looks_50 ?_
      refine lv_icmp_lt (tgt := 61) hx hb dX9_looks_51 (by decide) (fun c_51 => ?_) (fun c_51 => ?_)
      · have hf := ifp c_51 hf
        exact kX9_looks_61 C K23 hK23 x1 x2 x3 M _ _ _ hf hst (lv_sub hl [0, 1, 2, 3] rfl)
      · have hf := ifn c_51 hf
        refine lv_aload_n hx hb dX9_looks_54 rfl (lv_at hl 0 rfl) ?_
        refine gf_X9_57 C hst dX9_looks_55 ?_
        refine lv_iload_n hx hb dX9_looks_58 rfl (lv_at hl 3 rfl) ?_
        refine lv_iconst (v := 0) hx hb dX9_looks_59 (by decide) ?_
        refine w_zast (N := 100) (f := M 15) (M' := (upM M 15 (Int32.toNatClampNeg x3) (0 : Int32))) C hst 15 rfl rfl (wM_set15 cI cZ a M (Int32.toNatClampNeg x3) (0 : Int32)) h_36 dX9_looks_60 (fun H locs hst => ?_)
        exact kX9_looks_61 C K23 hK23 x1 x2 x3 (upM M 15 (Int32.toNatClampNeg x3) (0 : Int32)) _ _ _ hf hst (lv_sub hl [0, 1, 2, 3] rfl)
theorem tX9_looks_23 {p : Program} {l : Launch} {e : Env} {s : State} {m : MethodId} {args : Array Value} {below : List Frame} {meth : Method} {c : Code} {D : va_G} {cI cZ : ClassId} {a : Nat → Nat} {A : Nat → Prop} {r : Int32} {M' : Mem} (C : Cx p s m args meth c cX9_looks 4 RX9 none D cI cZ A)  : ∀ (n : Nat) (x1 x2 x3 : Int32) (M : Mem) (H : Heap) (locs : List Loc) (ls : Array Slot), lX9_looks_23 n x1 x2 x3 M = some (r, M') → St D (wM cI cZ a) A s.heap H locs M → lv_has ls 4 [(0, .ref (a 0)), (1, .int x1), (2, .int x2), (3, .int x3)] → Wv p l e { frames := 4, cells := 0, slots := 0, locals := 92 } s m args below meth c D (wM cI cZ a) A M' H locs (F0 m 23 ls []) := by
  intro n
  induction n with
  | zero =>
    intro x1 x2 x3 M H locs ls hf
    exact nomatch (show (none : Res) = some (r, M') from hf)
  | succ n ih =>
    intro x1 x2 x3 M H locs ls hf hst hl
    exact kX9_looks_23 C (lX9_looks_23 n) ih x1 x2 x3 M H locs ls hf hst hl

set_option maxHeartbeats 4000000 in
set_option maxRecDepth 100000 in
theorem kX9_looks_21 {p : Program} {l : Launch} {e : Env} {s : State} {m : MethodId} {args : Array Value} {below : List Frame} {meth : Method} {c : Code} {D : va_G} {cI cZ : ClassId} {a : Nat → Nat} {A : Nat → Prop} {r : Int32} {M' : Mem} (C : Cx p s m args meth c cX9_looks 4 RX9 none D cI cZ A)  (x1 x2 : Int32) (M : Mem) (H : Heap) (locs : List Loc) (ls : Array Slot) (hf : gX9_looks_21 x1 x2 M = some (r, M')) (hst : St D (wM cI cZ a) A s.heap H locs M) (hl : lv_has ls 4 [(0, .ref (a 0)), (1, .int x1), (2, .int x2)]) : Wv p l e { frames := 4, cells := 0, slots := 0, locals := 92 } s m args below meth c D (wM cI cZ a) A M' H locs (F0 m 21 ls []) := by
  unfold gX9_looks_21 at hf
  obtain ⟨hx, hb, hml, hown, hU, hr, hlk, hK, hA⟩ := id C
  refine lv_iconst (v := 0) hx hb dX9_looks_21 (by decide) ?_
  refine lv_istore_n (lv' := [(3, .int (0 : Int32)), (0, .ref (a 0)), (1, .int x1), (2, .int x2)]) hx hb dX9_looks_22 rfl hl (by decide) rfl (fun ls hl => ?_)
  exact tX9_looks_23 C  fu x1 x2 (0 : Int32) M _ _ _ hf hst (lv_sub hl [1, 2, 3, 0] rfl)
set_option maxHeartbeats 4000000 in
set_option maxRecDepth 100000 in
theorem kX9_looks_0 {p : Program} {l : Launch} {e : Env} {s : State} {m : MethodId} {args : Array Value} {below : List Frame} {meth : Method} {c : Code} {D : va_G} {cI cZ : ClassId} {a : Nat → Nat} {A : Nat → Prop} {r : Int32} {M' : Mem} (C : Cx p s m args meth c cX9_looks 4 RX9 none D cI cZ A)  (x1 x2 : Int32) (M : Mem) (H : Heap) (locs : List Loc) (ls : Array Slot) (hf : fX9_looks x1 x2 M = some (r, M')) (hst : St D (wM cI cZ a) A s.heap H locs M) (hl : lv_has ls 4 [(0, .ref (a 0)), (1, .int x1), (2, .int x2)]) : Wv p l e { frames := 4, cells := 0, slots := 0, locals := 92 } s m args below meth c D (wM cI cZ a) A M' H locs (F0 m 0 ls []) := by
  unfold fX9_looks at hf
  obtain ⟨hx, hb, hml, hown, hU, hr, hlk, hK, hA⟩ := id C
  refine lv_aload_n hx hb dX9_looks_0 rfl (lv_at hl 0 rfl) ?_
  refine lv_iload_n hx hb dX9_looks_1 rfl (lv_at hl 1 rfl) ?_
  refine lv_iload_n hx hb dX9_looks_2 rfl (lv_at hl 2 rfl) ?_
  obtain ⟨r_3, M_3, hc_3, hf⟩ := obi_some hf
  refine w_cVi (As := [.int x1, .int x2]) (rest := []) C (wM_ad cI cZ a) (mX9_jumps l D cI cZ a x1 x2 M r_3 M_3 hc_3) calX9_jumps cavX9_jumps (mU3 186 rfl rfl) hst hl.1 0 9 rfl rfl rfl rfl (Nat.le_of_ble_eq_true rfl) ⟨Nat.le_of_ble_eq_true rfl, Nat.le_of_ble_eq_true rfl⟩ dX9_looks_3 (fun H locs hst => ?_)
  refine lv_if_eq (tgt := 21) hx hb dX9_looks_6 (by decide) (fun c_6 => ?_) (fun c_6 => ?_)
  · have hf := ifp c_6 hf
    exact kX9_looks_21 C  x1 x2 M_3 _ _ _ hf hst (lv_sub hl [0, 1, 2] rfl)
  · have hf := ifn c_6 hf
    refine lv_aload_n hx hb dX9_looks_9 rfl (lv_at hl 0 rfl) ?_
    refine lv_iload_n hx hb dX9_looks_10 rfl (lv_at hl 1 rfl) ?_
    refine lv_aload_n hx hb dX9_looks_11 rfl (lv_at hl 0 rfl) ?_
    refine lv_iload_n hx hb dX9_looks_12 rfl (lv_at hl 1 rfl) ?_
    refine lv_iload_n hx hb dX9_looks_13 rfl (lv_at hl 2 rfl) ?_
    obtain ⟨r_14, M_14, hc_14, hf⟩ := obi_some hf
    refine w_cVi (As := [.int x1, .int x2]) (rest := [.int x1, .ref (a 0)]) C (wM_ad cI cZ a) (mX9_causeOf l D cI cZ a x1 x2 M_3 r_14 M_14 hc_14) calX9_causeOf cavX9_causeOf (mU3 216 rfl rfl) hst hl.1 0 9 rfl rfl rfl rfl (Nat.le_of_ble_eq_true rfl) ⟨Nat.le_of_ble_eq_true rfl, Nat.le_of_ble_eq_true rfl⟩ dX9_looks_14 (fun H locs hst => ?_)
    refine lv_iload_n hx hb dX9_looks_17 rfl (lv_at hl 2 rfl) ?_
    obtain ⟨r_18, M_18, hc_18, hf⟩ := obi_some hf
    refine w_cVv (As := [.int x1, .int r_14, .int x2]) (rest := []) C (wM_ad cI cZ a) (mX9_cries l D cI cZ a x1 r_14 x2 M_14 r_18 M_18 hc_18) calX9_cries cavX9_cries (mU3 220 rfl rfl) hst hl.1 0 9 rfl rfl rfl rfl (Nat.le_of_ble_eq_true rfl) ⟨Nat.le_of_ble_eq_true rfl, Nat.le_of_ble_eq_true rfl⟩ dX9_looks_18 (fun H locs hst => ?_)
    exact kX9_looks_21 C  x1 x2 M_18 _ _ _ hf hst (lv_sub hl [0, 1, 2] rfl)
set_option maxRecDepth 100000 in
theorem mX9_looks (l : Launch) (D : va_G) (cI cZ : ClassId) (a : Nat → Nat) (x1 x2 : Int32) (M : Mem) (r : Int32) (M' : Mem) (hf : fX9_looks x1 x2 M = some (r, M')) : MV l D cI cZ (wM cI cZ a) yX9_looks cX9_looks 4 4 92 [.ref (a 0), .int x1, .int x2] M M' :=
  MV.of (by decide) (Nat.le_of_ble_eq_true rfl) (fun p e s m args below meth c A C hst ls hl => kX9_looks_0 C x1 x2 M s.heap [] ls hf hst hl)

def gX9_hours_33 (K26 : Int32 → Int32 → Mem → Res) (K33 : Int32 → Int32 → Int32 → Mem → Res) (x1 x2 x3 : Int32) (M : Mem) : Res :=
  (if (6 : Int32) ≤ x3 then K26 x1 (x2 + 1) (upM M 0 0 ((M 0 0) + (1 : Int32))) else obi (fX9_looks x3 (M 0 0) M) (fun r_45 M_45 => K33 x1 x2 (x3 + 1) M_45))
def lX9_hours_33 (K26 : Int32 → Int32 → Mem → Res) : Nat → Int32 → Int32 → Int32 → Mem → Res
  | 0, _, _, _, _ => none
  | n + 1, x1, x2, x3, M => gX9_hours_33 K26 (lX9_hours_33 K26 n) x1 x2 x3 M
def gX9_hours_26 (K26 : Int32 → Int32 → Mem → Res) (x1 x2 : Int32) (M : Mem) : Res :=
  (if x1 ≤ x2 then some ((M 0 0), M) else lX9_hours_33 K26 fu x1 x2 (0 : Int32) M)
def lX9_hours_26 : Nat → Int32 → Int32 → Mem → Res
  | 0, _, _, _ => none
  | n + 1, x1, x2, M => gX9_hours_26 (lX9_hours_26 n) x1 x2 M
def fX9_hours (x1 : Int32) (M : Mem) : Res :=
  obi (fX9_isIn x1 (1 : Int32) (48 : Int32) M) (fun r_4 M_4 => (if r_4 = 0 then some ((-1 : Int32), M_4) else (if (M_4 0 0) ≤ ((1999 : Int32) - x1) then lX9_hours_26  fu x1 (0 : Int32) M_4 else some ((-1 : Int32), M_4))))
theorem calX9_hours : Cal yX9_hours cX9_hours 4 (some .int) 1 := ⟨(mU3 211 rfl rfl), (mU1 10 rfl rfl), by decide +kernel⟩
theorem cavX9_hours : CalV yX9_hours := ⟨(mU3 209 rfl rfl), (mU3 210 rfl rfl)⟩
set_option maxHeartbeats 4000000 in
set_option maxRecDepth 100000 in
theorem kX9_hours_33 {p : Program} {l : Launch} {e : Env} {s : State} {m : MethodId} {args : Array Value} {below : List Frame} {meth : Method} {c : Code} {D : va_G} {cI cZ : ClassId} {a : Nat → Nat} {A : Nat → Prop} {r : Int32} {M' : Mem} (C : Cx p s m args meth c cX9_hours 4 RX9 (some .int) D cI cZ A) (K26 : Int32 → Int32 → Mem → Res) (hK26 : ∀ (x1 x2 : Int32) (M : Mem) (H : Heap) (locs : List Loc) (ls : Array Slot), K26 x1 x2 M = some (r, M') → St D (wM cI cZ a) A s.heap H locs M → lv_has ls 4 [(0, .ref (a 0)), (1, .int x1), (2, .int x2)] → Wi p l e { frames := 5, cells := 0, slots := 0, locals := 115 } s m args below meth c D (wM cI cZ a) A r M' H locs (F0 m 26 ls [])) (K33 : Int32 → Int32 → Int32 → Mem → Res) (hK33 : ∀ (x1 x2 x3 : Int32) (M : Mem) (H : Heap) (locs : List Loc) (ls : Array Slot), K33 x1 x2 x3 M = some (r, M') → St D (wM cI cZ a) A s.heap H locs M → lv_has ls 4 [(0, .ref (a 0)), (1, .int x1), (2, .int x2), (3, .int x3)] → Wi p l e { frames := 5, cells := 0, slots := 0, locals := 115 } s m args below meth c D (wM cI cZ a) A r M' H locs (F0 m 33 ls [])) (x1 x2 x3 : Int32) (M : Mem) (H : Heap) (locs : List Loc) (ls : Array Slot) (hf : gX9_hours_33 K26 K33 x1 x2 x3 M = some (r, M')) (hst : St D (wM cI cZ a) A s.heap H locs M) (hl : lv_has ls 4 [(0, .ref (a 0)), (1, .int x1), (2, .int x2), (3, .int x3)]) : Wi p l e { frames := 5, cells := 0, slots := 0, locals := 115 } s m args below meth c D (wM cI cZ a) A r M' H locs (F0 m 33 ls []) := by
  unfold gX9_hours_33 at hf
  obtain ⟨hx, hb, hml, hown, hU, hr, hlk, hK, hA⟩ := id C
  refine lv_iload_n hx hb dX9_hours_33 rfl (lv_at hl 3 rfl) ?_
  refine lv_bipush (v := 6) hx hb dX9_hours_34 (by decide) ?_
  refine lv_icmp_ge (tgt := 54) hx hb dX9_hours_36 (by decide) (fun c_36 => ?_) (fun c_36 => ?_)
  · have hf := ifp c_36 hf
    refine lv_aload_n hx hb dX9_hours_54 rfl (lv_at hl 0 rfl) ?_
    refine lv_dup hx hb dX9_hours_55 rfl ?_
    refine gf_X9_83 C hst dX9_hours_56 ?_
    refine lv_iconst (v := 1) hx hb dX9_hours_59 (by decide) ?_
    refine lv_iadd hx hb dX9_hours_60 ?_
    refine pf_X9_83 C hst dX9_hours_61 (fun H locs hst => ?_)
    refine lv_iinc (v := (x2 + 1)) (lv' := [(2, .int (x2 + 1)), (0, .ref (a 0)), (1, .int x1), (3, .int x3)]) hx hb dX9_hours_64 hl (k := 2) rfl rfl (by decide) rfl (fun ls hl => ?_)
    refine lv_goto (tgt := 26) hx hb dX9_hours_67 (by decide) ?_
    exact hK26 x1 (x2 + 1) (upM M 0 0 ((M 0 0) + (1 : Int32))) _ _ _ hf hst (lv_sub hl [1, 2, 0] rfl)
  · have hf := ifn c_36 hf
    refine lv_aload_n hx hb dX9_hours_39 rfl (lv_at hl 0 rfl) ?_
    refine lv_iload_n hx hb dX9_hours_40 rfl (lv_at hl 3 rfl) ?_
    refine lv_aload_n hx hb dX9_hours_41 rfl (lv_at hl 0 rfl) ?_
    refine gf_X9_83 C hst dX9_hours_42 ?_
    obtain ⟨r_45, M_45, hc_45, hf⟩ := obi_some hf
    refine w_cVv (As := [.int x3, .int (M 0 0)]) (rest := []) C (wM_ad cI cZ a) (mX9_looks l D cI cZ a x3 (M 0 0) M r_45 M_45 hc_45) calX9_looks cavX9_looks (mU3 212 rfl rfl) hst hl.1 0 9 rfl rfl rfl rfl (Nat.le_of_ble_eq_true rfl) ⟨Nat.le_of_ble_eq_true rfl, Nat.le_of_ble_eq_true rfl⟩ dX9_hours_45 (fun H locs hst => ?_)
    refine lv_iinc (v := (x3 + 1)) (lv' := [(3, .int (x3 + 1)), (0, .ref (a 0)), (1, .int x1), (2, .int x2)]) hx hb dX9_hours_48 hl (k := 3) rfl rfl (by decide) rfl (fun ls hl => ?_)
    refine lv_goto (tgt := 33) hx hb dX9_hours_51 (by decide) ?_
    exact hK33 x1 x2 (x3 + 1) M_45 _ _ _ hf hst (lv_sub hl [1, 2, 3, 0] rfl)
theorem tX9_hours_33 {p : Program} {l : Launch} {e : Env} {s : State} {m : MethodId} {args : Array Value} {below : List Frame} {meth : Method} {c : Code} {D : va_G} {cI cZ : ClassId} {a : Nat → Nat} {A : Nat → Prop} {r : Int32} {M' : Mem} (C : Cx p s m args meth c cX9_hours 4 RX9 (some .int) D cI cZ A) (K26 : Int32 → Int32 → Mem → Res) (hK26 : ∀ (x1 x2 : Int32) (M : Mem) (H : Heap) (locs : List Loc) (ls : Array Slot), K26 x1 x2 M = some (r, M') → St D (wM cI cZ a) A s.heap H locs M → lv_has ls 4 [(0, .ref (a 0)), (1, .int x1), (2, .int x2)] → Wi p l e { frames := 5, cells := 0, slots := 0, locals := 115 } s m args below meth c D (wM cI cZ a) A r M' H locs (F0 m 26 ls [])) : ∀ (n : Nat) (x1 x2 x3 : Int32) (M : Mem) (H : Heap) (locs : List Loc) (ls : Array Slot), lX9_hours_33 K26 n x1 x2 x3 M = some (r, M') → St D (wM cI cZ a) A s.heap H locs M → lv_has ls 4 [(0, .ref (a 0)), (1, .int x1), (2, .int x2), (3, .int x3)] → Wi p l e { frames := 5, cells := 0, slots := 0, locals := 115 } s m args below meth c D (wM cI cZ a) A r M' H locs (F0 m 33 ls []) := by
  intro n
  induction n with
  | zero =>
    intro x1 x2 x3 M H locs ls hf
    exact nomatch (show (none : Res) = some (r, M') from hf)
  | succ n ih =>
    intro x1 x2 x3 M H locs ls hf hst hl
    exact kX9_hours_33 C K26 hK26 (lX9_hours_33 K26 n) ih x1 x2 x3 M H locs ls hf hst hl

set_option maxHeartbeats 4000000 in
set_option maxRecDepth 100000 in
theorem kX9_hours_26 {p : Program} {l : Launch} {e : Env} {s : State} {m : MethodId} {args : Array Value} {below : List Frame} {meth : Method} {c : Code} {D : va_G} {cI cZ : ClassId} {a : Nat → Nat} {A : Nat → Prop} {r : Int32} {M' : Mem} (C : Cx p s m args meth c cX9_hours 4 RX9 (some .int) D cI cZ A) (K26 : Int32 → Int32 → Mem → Res) (hK26 : ∀ (x1 x2 : Int32) (M : Mem) (H : Heap) (locs : List Loc) (ls : Array Slot), K26 x1 x2 M = some (r, M') → St D (wM cI cZ a) A s.heap H locs M → lv_has ls 4 [(0, .ref (a 0)), (1, .int x1), (2, .int x2)] → Wi p l e { frames := 5, cells := 0, slots := 0, locals := 115 } s m args below meth c D (wM cI cZ a) A r M' H locs (F0 m 26 ls [])) (x1 x2 : Int32) (M : Mem) (H : Heap) (locs : List Loc) (ls : Array Slot) (hf : gX9_hours_26 K26 x1 x2 M = some (r, M')) (hst : St D (wM cI cZ a) A s.heap H locs M) (hl : lv_has ls 4 [(0, .ref (a 0)), (1, .int x1), (2, .int x2)]) : Wi p l e { frames := 5, cells := 0, slots := 0, locals := 115 } s m args below meth c D (wM cI cZ a) A r M' H locs (F0 m 26 ls []) := by
  unfold gX9_hours_26 at hf
  obtain ⟨hx, hb, hml, hown, hU, hr, hlk, hK, hA⟩ := id C
  refine lv_iload_n hx hb dX9_hours_26 rfl (lv_at hl 2 rfl) ?_
  refine lv_iload_n hx hb dX9_hours_27 rfl (lv_at hl 1 rfl) ?_
  refine lv_icmp_ge (tgt := 70) hx hb dX9_hours_28 (by decide) (fun c_28 => ?_) (fun c_28 => ?_)
  · have hf := ifp c_28 hf
    refine lv_aload_n hx hb dX9_hours_70 rfl (lv_at hl 0 rfl) ?_
    refine gf_X9_83 C hst dX9_hours_71 ?_
    obtain ⟨e1, e2⟩ := sinj hf
    subst e1
    subst e2
    exact w_iret C hst dX9_hours_74
  · have hf := ifn c_28 hf
    refine lv_iconst (v := 0) hx hb dX9_hours_31 (by decide) ?_
    refine lv_istore_n (lv' := [(3, .int (0 : Int32)), (0, .ref (a 0)), (1, .int x1), (2, .int x2)]) hx hb dX9_hours_32 rfl hl (by decide) rfl (fun ls hl => ?_)
    exact tX9_hours_33 C K26 hK26 fu x1 x2 (0 : Int32) M _ _ _ hf hst (lv_sub hl [1, 2, 3, 0] rfl)
theorem tX9_hours_26 {p : Program} {l : Launch} {e : Env} {s : State} {m : MethodId} {args : Array Value} {below : List Frame} {meth : Method} {c : Code} {D : va_G} {cI cZ : ClassId} {a : Nat → Nat} {A : Nat → Prop} {r : Int32} {M' : Mem} (C : Cx p s m args meth c cX9_hours 4 RX9 (some .int) D cI cZ A)  : ∀ (n : Nat) (x1 x2 : Int32) (M : Mem) (H : Heap) (locs : List Loc) (ls : Array Slot), lX9_hours_26 n x1 x2 M = some (r, M') → St D (wM cI cZ a) A s.heap H locs M → lv_has ls 4 [(0, .ref (a 0)), (1, .int x1), (2, .int x2)] → Wi p l e { frames := 5, cells := 0, slots := 0, locals := 115 } s m args below meth c D (wM cI cZ a) A r M' H locs (F0 m 26 ls []) := by
  intro n
  induction n with
  | zero =>
    intro x1 x2 M H locs ls hf
    exact nomatch (show (none : Res) = some (r, M') from hf)
  | succ n ih =>
    intro x1 x2 M H locs ls hf hst hl
    exact kX9_hours_26 C (lX9_hours_26 n) ih x1 x2 M H locs ls hf hst hl

set_option maxHeartbeats 4000000 in
set_option maxRecDepth 100000 in
theorem kX9_hours_0 {p : Program} {l : Launch} {e : Env} {s : State} {m : MethodId} {args : Array Value} {below : List Frame} {meth : Method} {c : Code} {D : va_G} {cI cZ : ClassId} {a : Nat → Nat} {A : Nat → Prop} {r : Int32} {M' : Mem} (C : Cx p s m args meth c cX9_hours 4 RX9 (some .int) D cI cZ A)  (x1 : Int32) (M : Mem) (H : Heap) (locs : List Loc) (ls : Array Slot) (hf : fX9_hours x1 M = some (r, M')) (hst : St D (wM cI cZ a) A s.heap H locs M) (hl : lv_has ls 4 [(0, .ref (a 0)), (1, .int x1)]) : Wi p l e { frames := 5, cells := 0, slots := 0, locals := 115 } s m args below meth c D (wM cI cZ a) A r M' H locs (F0 m 0 ls []) := by
  unfold fX9_hours at hf
  obtain ⟨hx, hb, hml, hown, hU, hr, hlk, hK, hA⟩ := id C
  refine lv_iload_n hx hb dX9_hours_0 rfl (lv_at hl 1 rfl) ?_
  refine lv_iconst (v := 1) hx hb dX9_hours_1 (by decide) ?_
  refine lv_bipush (v := 48) hx hb dX9_hours_2 (by decide) ?_
  obtain ⟨r_4, M_4, hc_4, hf⟩ := obi_some hf
  refine w_cSi (As := [.int x1, .int (1 : Int32), .int (48 : Int32)]) (rest := []) C (wM_ad cI cZ a) (mX9_isIn l D cI cZ a x1 (1 : Int32) (48 : Int32) M r_4 M_4 hc_4) calX9_isIn casX9_isIn (mU3 135 rfl rfl) hst hl.1 rfl rfl (Nat.le_of_ble_eq_true rfl) ⟨Nat.le_of_ble_eq_true rfl, Nat.le_of_ble_eq_true rfl⟩ dX9_hours_4 (fun H locs hst => ?_)
  refine lv_if_eq (tgt := 22) hx hb dX9_hours_7 (by decide) (fun c_7 => ?_) (fun c_7 => ?_)
  · have hf := ifp c_7 hf
    refine lv_iconst (v := -1) hx hb dX9_hours_22 (by decide) ?_
    obtain ⟨e1, e2⟩ := sinj hf
    subst e1
    subst e2
    exact w_iret C hst dX9_hours_23
  · have hf := ifn c_7 hf
    refine lv_aload_n hx hb dX9_hours_10 rfl (lv_at hl 0 rfl) ?_
    refine gf_X9_83 C hst dX9_hours_11 ?_
    refine lv_sipush (v := 1999) hx hb dX9_hours_14 (by decide) ?_
    refine lv_iload_n hx hb dX9_hours_17 rfl (lv_at hl 1 rfl) ?_
    refine lv_isub hx hb dX9_hours_18 ?_
    refine lv_icmp_le (tgt := 24) hx hb dX9_hours_19 (by decide) (fun c_19 => ?_) (fun c_19 => ?_)
    · have hf := ifp c_19 hf
      refine lv_iconst (v := 0) hx hb dX9_hours_24 (by decide) ?_
      refine lv_istore_n (lv' := [(2, .int (0 : Int32)), (0, .ref (a 0)), (1, .int x1)]) hx hb dX9_hours_25 rfl hl (by decide) rfl (fun ls hl => ?_)
      exact tX9_hours_26 C  fu x1 (0 : Int32) M_4 _ _ _ hf hst (lv_sub hl [1, 2, 0] rfl)
    · have hf := ifn c_19 hf
      refine lv_iconst (v := -1) hx hb dX9_hours_22 (by decide) ?_
      obtain ⟨e1, e2⟩ := sinj hf
      subst e1
      subst e2
      exact w_iret C hst dX9_hours_23
set_option maxRecDepth 100000 in
theorem mX9_hours (l : Launch) (D : va_G) (cI cZ : ClassId) (a : Nat → Nat) (x1 : Int32) (M : Mem) (r : Int32) (M' : Mem) (hf : fX9_hours x1 M = some (r, M')) : MI l D cI cZ (wM cI cZ a) yX9_hours cX9_hours 4 (some .int) 5 115 [.ref (a 0), .int x1] M r M' :=
  MI.of (by decide) (Nat.le_of_ble_eq_true rfl) (fun p e s m args below meth c A C hst ls hl => kX9_hours_0 C x1 M s.heap [] ls hf hst hl)

def gX9_look_116 (K93 : Int32 → Int32 → Int32 → Mem → Res) (x1 x2 x3 z0 z1 : Int32) (M : Mem) : Res :=
  K93 x1 (z0 + z1) (x3 + 1) M
def gX9_look_93 (K93 : Int32 → Int32 → Int32 → Mem → Res) (x1 x2 x3 : Int32) (M : Mem) : Res :=
  (if (M 0 2) ≤ x3 then some (x2, M) else if x3 < 0 ∨ 100 ≤ Int32.toNatClampNeg x3 then none else (if (M 15 (Int32.toNatClampNeg x3)) = 0 then gX9_look_116 K93 x1 x2 x3 x2 (0 : Int32) M else gX9_look_116 K93 x1 x2 x3 x2 (1 : Int32) M))
def lX9_look_93 : Nat → Int32 → Int32 → Int32 → Mem → Res
  | 0, _, _, _, _ => none
  | n + 1, x1, x2, x3, M => gX9_look_93 (lX9_look_93 n) x1 x2 x3 M
def gX9_look_76 (K52 : Int32 → Int32 → Int32 → Mem → Res) (x1 x2 x3 z0 z1 : Int32) (M : Mem) : Res :=
  K52 x1 (z0 + z1) (x3 + 1) M
def gX9_look_52 (K52 : Int32 → Int32 → Int32 → Mem → Res) (x1 x2 x3 : Int32) (M : Mem) : Res :=
  (if (M 0 1) ≤ x3 then some (x2, M) else if x3 < 0 ∨ 40 ≤ Int32.toNatClampNeg x3 then none else (if (M 8 (Int32.toNatClampNeg x3)) = (-1 : Int32) then gX9_look_76 K52 x1 x2 x3 x2 (1 : Int32) M else gX9_look_76 K52 x1 x2 x3 x2 (0 : Int32) M))
def lX9_look_52 : Nat → Int32 → Int32 → Int32 → Mem → Res
  | 0, _, _, _, _ => none
  | n + 1, x1, x2, x3, M => gX9_look_52 (lX9_look_52 n) x1 x2 x3 M
def fX9_look (x1 : Int32) (M : Mem) : Res :=
  (if x1 = (0 : Int32) then some ((M 0 0), M) else (if x1 = (1 : Int32) then some ((M 0 1), M) else (if x1 = (2 : Int32) then lX9_look_52  fu x1 (0 : Int32) (0 : Int32) M else (if x1 = (3 : Int32) then some ((M 0 2), M) else (if x1 = (4 : Int32) then lX9_look_93  fu x1 (0 : Int32) (0 : Int32) M else (if x1 = (5 : Int32) then some ((M 0 3), M) else some ((-1 : Int32), M)))))))
theorem calX9_look : Cal yX9_look cX9_look 4 (some .int) 1 := ⟨(mU3 227 rfl rfl), (mU1 10 rfl rfl), by decide +kernel⟩
theorem cavX9_look : CalV yX9_look := ⟨(mU3 225 rfl rfl), (mU3 226 rfl rfl)⟩
set_option maxHeartbeats 4000000 in
set_option maxRecDepth 100000 in
theorem kX9_look_116 {p : Program} {l : Launch} {e : Env} {s : State} {m : MethodId} {args : Array Value} {below : List Frame} {meth : Method} {c : Code} {D : va_G} {cI cZ : ClassId} {a : Nat → Nat} {A : Nat → Prop} {r : Int32} {M' : Mem} (C : Cx p s m args meth c cX9_look 4 RX9 (some .int) D cI cZ A) (K93 : Int32 → Int32 → Int32 → Mem → Res) (hK93 : ∀ (x1 x2 x3 : Int32) (M : Mem) (H : Heap) (locs : List Loc) (ls : Array Slot), K93 x1 x2 x3 M = some (r, M') → St D (wM cI cZ a) A s.heap H locs M → lv_has ls 4 [(0, .ref (a 0)), (1, .int x1), (2, .int x2), (3, .int x3)] → Wi p l e { frames := 0, cells := 0, slots := 0, locals := 0 } s m args below meth c D (wM cI cZ a) A r M' H locs (F0 m 93 ls [])) (x1 x2 x3 z0 z1 : Int32) (M : Mem) (H : Heap) (locs : List Loc) (ls : Array Slot) (hf : gX9_look_116 K93 x1 x2 x3 z0 z1 M = some (r, M')) (hst : St D (wM cI cZ a) A s.heap H locs M) (hl : lv_has ls 4 [(0, .ref (a 0)), (1, .int x1), (2, .int x2), (3, .int x3)]) : Wi p l e { frames := 0, cells := 0, slots := 0, locals := 0 } s m args below meth c D (wM cI cZ a) A r M' H locs (F0 m 116 ls [.int z1, .int z0]) := by
  unfold gX9_look_116 at hf
  obtain ⟨hx, hb, hml, hown, hU, hr, hlk, hK, hA⟩ := id C
  refine lv_iadd hx hb dX9_look_116 ?_
  refine lv_istore_n (lv' := [(2, .int (z0 + z1)), (0, .ref (a 0)), (1, .int x1), (3, .int x3)]) hx hb dX9_look_117 rfl hl (by decide) rfl (fun ls hl => ?_)
  refine lv_iinc (v := (x3 + 1)) (lv' := [(3, .int (x3 + 1)), (2, .int (z0 + z1)), (0, .ref (a 0)), (1, .int x1)]) hx hb dX9_look_118 hl (k := 3) rfl rfl (by decide) rfl (fun ls hl => ?_)
  refine lv_goto (tgt := 93) hx hb dX9_look_121 (by decide) ?_
  exact hK93 x1 (z0 + z1) (x3 + 1) M _ _ _ hf hst (lv_sub hl [2, 3, 1, 0] rfl)
set_option maxHeartbeats 4000000 in
set_option maxRecDepth 100000 in
theorem kX9_look_93 {p : Program} {l : Launch} {e : Env} {s : State} {m : MethodId} {args : Array Value} {below : List Frame} {meth : Method} {c : Code} {D : va_G} {cI cZ : ClassId} {a : Nat → Nat} {A : Nat → Prop} {r : Int32} {M' : Mem} (C : Cx p s m args meth c cX9_look 4 RX9 (some .int) D cI cZ A) (K93 : Int32 → Int32 → Int32 → Mem → Res) (hK93 : ∀ (x1 x2 x3 : Int32) (M : Mem) (H : Heap) (locs : List Loc) (ls : Array Slot), K93 x1 x2 x3 M = some (r, M') → St D (wM cI cZ a) A s.heap H locs M → lv_has ls 4 [(0, .ref (a 0)), (1, .int x1), (2, .int x2), (3, .int x3)] → Wi p l e { frames := 0, cells := 0, slots := 0, locals := 0 } s m args below meth c D (wM cI cZ a) A r M' H locs (F0 m 93 ls [])) (x1 x2 x3 : Int32) (M : Mem) (H : Heap) (locs : List Loc) (ls : Array Slot) (hf : gX9_look_93 K93 x1 x2 x3 M = some (r, M')) (hst : St D (wM cI cZ a) A s.heap H locs M) (hl : lv_has ls 4 [(0, .ref (a 0)), (1, .int x1), (2, .int x2), (3, .int x3)]) : Wi p l e { frames := 0, cells := 0, slots := 0, locals := 0 } s m args below meth c D (wM cI cZ a) A r M' H locs (F0 m 93 ls []) := by
  unfold gX9_look_93 at hf
  obtain ⟨hx, hb, hml, hown, hU, hr, hlk, hK, hA⟩ := id C
  refine lv_iload_n hx hb dX9_look_93 rfl (lv_at hl 3 rfl) ?_
  refine lv_aload_n hx hb dX9_look_94 rfl (lv_at hl 0 rfl) ?_
  refine gf_X9_131 C hst dX9_look_95 ?_
  refine lv_icmp_ge (tgt := 124) hx hb dX9_look_98 (by decide) (fun c_98 => ?_) (fun c_98 => ?_)
  · have hf := ifp c_98 hf
    refine lv_iload_n hx hb dX9_look_124 rfl (lv_at hl 2 rfl) ?_
    obtain ⟨e1, e2⟩ := sinj hf
    subst e1
    subst e2
    exact w_iret C hst dX9_look_125
  · have hf := ifn c_98 hf
    refine lv_iload_n hx hb dX9_look_101 rfl (lv_at hl 2 rfl) ?_
    refine lv_aload_n hx hb dX9_look_102 rfl (lv_at hl 0 rfl) ?_
    refine gf_X9_57 C hst dX9_look_103 ?_
    refine lv_iload_n hx hb dX9_look_106 rfl (lv_at hl 3 rfl) ?_
    obtain ⟨h_107, hf⟩ := og hf
    refine w_zald (N := 100) (f := M 15) C hst 15 rfl h_107 dX9_look_107 ?_
    refine lv_if_eq (tgt := 115) hx hb dX9_look_108 (by decide) (fun c_108 => ?_) (fun c_108 => ?_)
    · have hf := ifp c_108 hf
      refine lv_iconst (v := 0) hx hb dX9_look_115 (by decide) ?_
      exact kX9_look_116 C K93 hK93 x1 x2 x3 x2 (0 : Int32) M _ _ _ hf hst (lv_sub hl [0, 1, 2, 3] rfl)
    · have hf := ifn c_108 hf
      refine lv_iconst (v := 1) hx hb dX9_look_111 (by decide) ?_
      refine lv_goto (tgt := 116) hx hb dX9_look_112 (by decide) ?_
      exact kX9_look_116 C K93 hK93 x1 x2 x3 x2 (1 : Int32) M _ _ _ hf hst (lv_sub hl [0, 1, 2, 3] rfl)
theorem tX9_look_93 {p : Program} {l : Launch} {e : Env} {s : State} {m : MethodId} {args : Array Value} {below : List Frame} {meth : Method} {c : Code} {D : va_G} {cI cZ : ClassId} {a : Nat → Nat} {A : Nat → Prop} {r : Int32} {M' : Mem} (C : Cx p s m args meth c cX9_look 4 RX9 (some .int) D cI cZ A)  : ∀ (n : Nat) (x1 x2 x3 : Int32) (M : Mem) (H : Heap) (locs : List Loc) (ls : Array Slot), lX9_look_93 n x1 x2 x3 M = some (r, M') → St D (wM cI cZ a) A s.heap H locs M → lv_has ls 4 [(0, .ref (a 0)), (1, .int x1), (2, .int x2), (3, .int x3)] → Wi p l e { frames := 0, cells := 0, slots := 0, locals := 0 } s m args below meth c D (wM cI cZ a) A r M' H locs (F0 m 93 ls []) := by
  intro n
  induction n with
  | zero =>
    intro x1 x2 x3 M H locs ls hf
    exact nomatch (show (none : Res) = some (r, M') from hf)
  | succ n ih =>
    intro x1 x2 x3 M H locs ls hf hst hl
    exact kX9_look_93 C (lX9_look_93 n) ih x1 x2 x3 M H locs ls hf hst hl

set_option maxHeartbeats 4000000 in
set_option maxRecDepth 100000 in
theorem kX9_look_76 {p : Program} {l : Launch} {e : Env} {s : State} {m : MethodId} {args : Array Value} {below : List Frame} {meth : Method} {c : Code} {D : va_G} {cI cZ : ClassId} {a : Nat → Nat} {A : Nat → Prop} {r : Int32} {M' : Mem} (C : Cx p s m args meth c cX9_look 4 RX9 (some .int) D cI cZ A) (K52 : Int32 → Int32 → Int32 → Mem → Res) (hK52 : ∀ (x1 x2 x3 : Int32) (M : Mem) (H : Heap) (locs : List Loc) (ls : Array Slot), K52 x1 x2 x3 M = some (r, M') → St D (wM cI cZ a) A s.heap H locs M → lv_has ls 4 [(0, .ref (a 0)), (1, .int x1), (2, .int x2), (3, .int x3)] → Wi p l e { frames := 0, cells := 0, slots := 0, locals := 0 } s m args below meth c D (wM cI cZ a) A r M' H locs (F0 m 52 ls [])) (x1 x2 x3 z0 z1 : Int32) (M : Mem) (H : Heap) (locs : List Loc) (ls : Array Slot) (hf : gX9_look_76 K52 x1 x2 x3 z0 z1 M = some (r, M')) (hst : St D (wM cI cZ a) A s.heap H locs M) (hl : lv_has ls 4 [(0, .ref (a 0)), (1, .int x1), (2, .int x2), (3, .int x3)]) : Wi p l e { frames := 0, cells := 0, slots := 0, locals := 0 } s m args below meth c D (wM cI cZ a) A r M' H locs (F0 m 76 ls [.int z1, .int z0]) := by
  unfold gX9_look_76 at hf
  obtain ⟨hx, hb, hml, hown, hU, hr, hlk, hK, hA⟩ := id C
  refine lv_iadd hx hb dX9_look_76 ?_
  refine lv_istore_n (lv' := [(2, .int (z0 + z1)), (0, .ref (a 0)), (1, .int x1), (3, .int x3)]) hx hb dX9_look_77 rfl hl (by decide) rfl (fun ls hl => ?_)
  refine lv_iinc (v := (x3 + 1)) (lv' := [(3, .int (x3 + 1)), (2, .int (z0 + z1)), (0, .ref (a 0)), (1, .int x1)]) hx hb dX9_look_78 hl (k := 3) rfl rfl (by decide) rfl (fun ls hl => ?_)
  refine lv_goto (tgt := 52) hx hb dX9_look_81 (by decide) ?_
  exact hK52 x1 (z0 + z1) (x3 + 1) M _ _ _ hf hst (lv_sub hl [2, 3, 1, 0] rfl)
set_option maxHeartbeats 4000000 in
set_option maxRecDepth 100000 in
theorem kX9_look_52 {p : Program} {l : Launch} {e : Env} {s : State} {m : MethodId} {args : Array Value} {below : List Frame} {meth : Method} {c : Code} {D : va_G} {cI cZ : ClassId} {a : Nat → Nat} {A : Nat → Prop} {r : Int32} {M' : Mem} (C : Cx p s m args meth c cX9_look 4 RX9 (some .int) D cI cZ A) (K52 : Int32 → Int32 → Int32 → Mem → Res) (hK52 : ∀ (x1 x2 x3 : Int32) (M : Mem) (H : Heap) (locs : List Loc) (ls : Array Slot), K52 x1 x2 x3 M = some (r, M') → St D (wM cI cZ a) A s.heap H locs M → lv_has ls 4 [(0, .ref (a 0)), (1, .int x1), (2, .int x2), (3, .int x3)] → Wi p l e { frames := 0, cells := 0, slots := 0, locals := 0 } s m args below meth c D (wM cI cZ a) A r M' H locs (F0 m 52 ls [])) (x1 x2 x3 : Int32) (M : Mem) (H : Heap) (locs : List Loc) (ls : Array Slot) (hf : gX9_look_52 K52 x1 x2 x3 M = some (r, M')) (hst : St D (wM cI cZ a) A s.heap H locs M) (hl : lv_has ls 4 [(0, .ref (a 0)), (1, .int x1), (2, .int x2), (3, .int x3)]) : Wi p l e { frames := 0, cells := 0, slots := 0, locals := 0 } s m args below meth c D (wM cI cZ a) A r M' H locs (F0 m 52 ls []) := by
  unfold gX9_look_52 at hf
  obtain ⟨hx, hb, hml, hown, hU, hr, hlk, hK, hA⟩ := id C
  refine lv_iload_n hx hb dX9_look_52 rfl (lv_at hl 3 rfl) ?_
  refine lv_aload_n hx hb dX9_look_53 rfl (lv_at hl 0 rfl) ?_
  refine gf_X9_80 C hst dX9_look_54 ?_
  refine lv_icmp_ge (tgt := 84) hx hb dX9_look_57 (by decide) (fun c_57 => ?_) (fun c_57 => ?_)
  · have hf := ifp c_57 hf
    refine lv_iload_n hx hb dX9_look_84 rfl (lv_at hl 2 rfl) ?_
    obtain ⟨e1, e2⟩ := sinj hf
    subst e1
    subst e2
    exact w_iret C hst dX9_look_85
  · have hf := ifn c_57 hf
    refine lv_iload_n hx hb dX9_look_60 rfl (lv_at hl 2 rfl) ?_
    refine lv_aload_n hx hb dX9_look_61 rfl (lv_at hl 0 rfl) ?_
    refine gf_X9_36 C hst dX9_look_62 ?_
    refine lv_iload_n hx hb dX9_look_65 rfl (lv_at hl 3 rfl) ?_
    obtain ⟨h_66, hf⟩ := og hf
    refine w_iald (N := 40) (f := M 8) C hst 8 rfl h_66 dX9_look_66 ?_
    refine lv_iconst (v := -1) hx hb dX9_look_67 (by decide) ?_
    refine lv_icmp_ne (tgt := 75) hx hb dX9_look_68 (by decide) (fun c_68 => ?_) (fun c_68 => ?_)
    · have hf := ifn c_68 hf
      refine lv_iconst (v := 0) hx hb dX9_look_75 (by decide) ?_
      exact kX9_look_76 C K52 hK52 x1 x2 x3 x2 (0 : Int32) M _ _ _ hf hst (lv_sub hl [0, 1, 2, 3] rfl)
    · have hf := ifp c_68 hf
      refine lv_iconst (v := 1) hx hb dX9_look_71 (by decide) ?_
      refine lv_goto (tgt := 76) hx hb dX9_look_72 (by decide) ?_
      exact kX9_look_76 C K52 hK52 x1 x2 x3 x2 (1 : Int32) M _ _ _ hf hst (lv_sub hl [0, 1, 2, 3] rfl)
theorem tX9_look_52 {p : Program} {l : Launch} {e : Env} {s : State} {m : MethodId} {args : Array Value} {below : List Frame} {meth : Method} {c : Code} {D : va_G} {cI cZ : ClassId} {a : Nat → Nat} {A : Nat → Prop} {r : Int32} {M' : Mem} (C : Cx p s m args meth c cX9_look 4 RX9 (some .int) D cI cZ A)  : ∀ (n : Nat) (x1 x2 x3 : Int32) (M : Mem) (H : Heap) (locs : List Loc) (ls : Array Slot), lX9_look_52 n x1 x2 x3 M = some (r, M') → St D (wM cI cZ a) A s.heap H locs M → lv_has ls 4 [(0, .ref (a 0)), (1, .int x1), (2, .int x2), (3, .int x3)] → Wi p l e { frames := 0, cells := 0, slots := 0, locals := 0 } s m args below meth c D (wM cI cZ a) A r M' H locs (F0 m 52 ls []) := by
  intro n
  induction n with
  | zero =>
    intro x1 x2 x3 M H locs ls hf
    exact nomatch (show (none : Res) = some (r, M') from hf)
  | succ n ih =>
    intro x1 x2 x3 M H locs ls hf hst hl
    exact kX9_look_52 C (lX9_look_52 n) ih x1 x2 x3 M H locs ls hf hst hl

set_option maxHeartbeats 4000000 in
set_option maxRecDepth 100000 in
theorem kX9_look_0 {p : Program} {l : Launch} {e : Env} {s : State} {m : MethodId} {args : Array Value} {below : List Frame} {meth : Method} {c : Code} {D : va_G} {cI cZ : ClassId} {a : Nat → Nat} {A : Nat → Prop} {r : Int32} {M' : Mem} (C : Cx p s m args meth c cX9_look 4 RX9 (some .int) D cI cZ A)  (x1 : Int32) (M : Mem) (H : Heap) (locs : List Loc) (ls : Array Slot) (hf : fX9_look x1 M = some (r, M')) (hst : St D (wM cI cZ a) A s.heap H locs M) (hl : lv_has ls 4 [(0, .ref (a 0)), (1, .int x1)]) : Wi p l e { frames := 0, cells := 0, slots := 0, locals := 0 } s m args below meth c D (wM cI cZ a) A r M' H locs (F0 m 0 ls []) := by
  unfold fX9_look at hf
  obtain ⟨hx, hb, hml, hown, hU, hr, hlk, hK, hA⟩ := id C
  refine lv_iconst (v := 0) hx hb dX9_look_0 (by decide) ?_
  refine lv_istore_n (lv' := [(2, .int (0 : Int32)), (0, .ref (a 0)), (1, .int x1)]) hx hb dX9_look_1 rfl hl (by decide) rfl (fun ls hl => ?_)
  refine lv_iload_n hx hb dX9_look_2 rfl (lv_at hl 2 rfl) ?_
  by_cases c_3_0 : x1 = (0 : Int32)
  · have hf := ifp c_3_0 hf
    refine lv_tableIn (tgt := 40) hx hb dX9_look_3 (by rw [c_3_0]; decide) (by rw [c_3_0]; decide) (by rw [c_3_0]; rfl) (by decide) ?_
    refine lv_aload_n hx hb dX9_look_40 rfl (lv_at hl 1 rfl) ?_
    refine gf_X9_83 C hst dX9_look_41 ?_
    obtain ⟨e1, e2⟩ := sinj hf
    subst e1
    subst e2
    exact w_iret C hst dX9_look_44
  · have hf := ifn c_3_0 hf
    by_cases c_3_1 : x1 = (1 : Int32)
    · have hf := ifp c_3_1 hf
      refine lv_tableIn (tgt := 45) hx hb dX9_look_3 (by rw [c_3_1]; decide) (by rw [c_3_1]; decide) (by rw [c_3_1]; rfl) (by decide) ?_
      refine lv_aload_n hx hb dX9_look_45 rfl (lv_at hl 1 rfl) ?_
      refine gf_X9_80 C hst dX9_look_46 ?_
      obtain ⟨e1, e2⟩ := sinj hf
      subst e1
      subst e2
      exact w_iret C hst dX9_look_49
    · have hf := ifn c_3_1 hf
      by_cases c_3_2 : x1 = (2 : Int32)
      · have hf := ifp c_3_2 hf
        refine lv_tableIn (tgt := 50) hx hb dX9_look_3 (by rw [c_3_2]; decide) (by rw [c_3_2]; decide) (by rw [c_3_2]; rfl) (by decide) ?_
        refine lv_iconst (v := 0) hx hb dX9_look_50 (by decide) ?_
        refine lv_istore_n (lv' := [(3, .int (0 : Int32)), (2, .int (0 : Int32)), (0, .ref (a 0)), (1, .int x1)]) hx hb dX9_look_51 rfl hl (by decide) rfl (fun ls hl => ?_)
        exact tX9_look_52 C  fu x1 (0 : Int32) (0 : Int32) M _ _ _ hf hst (lv_sub hl [2, 3, 1, 0] rfl)
      · have hf := ifn c_3_2 hf
        by_cases c_3_3 : x1 = (3 : Int32)
        · have hf := ifp c_3_3 hf
          refine lv_tableIn (tgt := 86) hx hb dX9_look_3 (by rw [c_3_3]; decide) (by rw [c_3_3]; decide) (by rw [c_3_3]; rfl) (by decide) ?_
          refine lv_aload_n hx hb dX9_look_86 rfl (lv_at hl 1 rfl) ?_
          refine gf_X9_131 C hst dX9_look_87 ?_
          obtain ⟨e1, e2⟩ := sinj hf
          subst e1
          subst e2
          exact w_iret C hst dX9_look_90
        · have hf := ifn c_3_3 hf
          by_cases c_3_4 : x1 = (4 : Int32)
          · have hf := ifp c_3_4 hf
            refine lv_tableIn (tgt := 91) hx hb dX9_look_3 (by rw [c_3_4]; decide) (by rw [c_3_4]; decide) (by rw [c_3_4]; rfl) (by decide) ?_
            refine lv_iconst (v := 0) hx hb dX9_look_91 (by decide) ?_
            refine lv_istore_n (lv' := [(3, .int (0 : Int32)), (2, .int (0 : Int32)), (0, .ref (a 0)), (1, .int x1)]) hx hb dX9_look_92 rfl hl (by decide) rfl (fun ls hl => ?_)
            exact tX9_look_93 C  fu x1 (0 : Int32) (0 : Int32) M _ _ _ hf hst (lv_sub hl [2, 3, 1, 0] rfl)
          · have hf := ifn c_3_4 hf
            by_cases c_3_5 : x1 = (5 : Int32)
            · have hf := ifp c_3_5 hf
              refine lv_tableIn (tgt := 126) hx hb dX9_look_3 (by rw [c_3_5]; decide) (by rw [c_3_5]; decide) (by rw [c_3_5]; rfl) (by decide) ?_
              refine lv_aload_n hx hb dX9_look_126 rfl (lv_at hl 1 rfl) ?_
              refine gf_X9_7 C hst dX9_look_127 ?_
              obtain ⟨e1, e2⟩ := sinj hf
              subst e1
              subst e2
              exact w_iret C hst dX9_look_130
            · have hf := ifn c_3_5 hf
              refine lv_tableOut (tgt := 131) hx hb dX9_look_3 (tsO 5 (fun k hk => by rcases (show k = 0 ∨ k = 1 ∨ k = 2 ∨ k = 3 ∨ k = 4 ∨ k = 5 by omega) with rfl | rfl | rfl | rfl | rfl | rfl <;> assumption)) (by decide) ?_
              refine lv_iconst (v := -1) hx hb dX9_look_131 (by decide) ?_
              obtain ⟨e1, e2⟩ := sinj hf
              subst e1
              subst e2
              exact w_iret C hst dX9_look_132
set_option maxRecDepth 100000 in
theorem mX9_look (l : Launch) (D : va_G) (cI cZ : ClassId) (a : Nat → Nat) (x1 : Int32) (M : Mem) (r : Int32) (M' : Mem) (hf : fX9_look x1 M = some (r, M')) : MI l D cI cZ (wM cI cZ a) yX9_look cX9_look 4 (some .int) 0 0 [.ref (a 0), .int x1] M r M' :=
  MI.of (by decide) (Nat.le_of_ble_eq_true rfl) (fun p e s m args below meth c A C hst ls hl => kX9_look_0 C x1 M s.heap [] ls hf hst hl)

def fX9_machine (x1 x2 : Int32) (M : Mem) : Res :=
  obi (fX9_isMachine x1 M) (fun r_2 M_2 => (if r_2 = 0 then some ((-1 : Int32), M_2) else (if x2 = 0 then if x1 < 0 ∨ 40 ≤ Int32.toNatClampNeg x1 then none else some ((M_2 5 (Int32.toNatClampNeg x1)), M_2) else (if x2 = (1 : Int32) then if x1 < 0 ∨ 40 ≤ Int32.toNatClampNeg x1 then none else some ((M_2 6 (Int32.toNatClampNeg x1)), M_2) else (if x2 = (2 : Int32) then if x1 < 0 ∨ 40 ≤ Int32.toNatClampNeg x1 then none else some ((M_2 7 (Int32.toNatClampNeg x1)), M_2) else (if x2 = (3 : Int32) then if x1 < 0 ∨ 40 ≤ Int32.toNatClampNeg x1 then none else some ((M_2 8 (Int32.toNatClampNeg x1)), M_2) else some ((-1 : Int32), M_2)))))))
theorem calX9_machine : Cal yX9_machine cX9_machine 3 (some .int) 2 := ⟨(mU3 231 rfl rfl), (mU1 10 rfl rfl), by decide +kernel⟩
theorem cavX9_machine : CalV yX9_machine := ⟨(mU3 229 rfl rfl), (mU3 230 rfl rfl)⟩
set_option maxHeartbeats 4000000 in
set_option maxRecDepth 100000 in
theorem kX9_machine_0 {p : Program} {l : Launch} {e : Env} {s : State} {m : MethodId} {args : Array Value} {below : List Frame} {meth : Method} {c : Code} {D : va_G} {cI cZ : ClassId} {a : Nat → Nat} {A : Nat → Prop} {r : Int32} {M' : Mem} (C : Cx p s m args meth c cX9_machine 3 RX9 (some .int) D cI cZ A)  (x1 x2 : Int32) (M : Mem) (H : Heap) (locs : List Loc) (ls : Array Slot) (hf : fX9_machine x1 x2 M = some (r, M')) (hst : St D (wM cI cZ a) A s.heap H locs M) (hl : lv_has ls 3 [(0, .ref (a 0)), (1, .int x1), (2, .int x2)]) : Wi p l e { frames := 2, cells := 0, slots := 0, locals := 43 } s m args below meth c D (wM cI cZ a) A r M' H locs (F0 m 0 ls []) := by
  unfold fX9_machine at hf
  obtain ⟨hx, hb, hml, hown, hU, hr, hlk, hK, hA⟩ := id C
  refine lv_aload_n hx hb dX9_machine_0 rfl (lv_at hl 0 rfl) ?_
  refine lv_iload_n hx hb dX9_machine_1 rfl (lv_at hl 1 rfl) ?_
  obtain ⟨r_2, M_2, hc_2, hf⟩ := obi_some hf
  refine w_cVi (As := [.int x1]) (rest := []) C (wM_ad cI cZ a) (mX9_isMachine l D cI cZ a x1 M r_2 M_2 hc_2) calX9_isMachine cavX9_isMachine (mU3 153 rfl rfl) hst hl.1 0 9 rfl rfl rfl rfl (Nat.le_of_ble_eq_true rfl) ⟨Nat.le_of_ble_eq_true rfl, Nat.le_of_ble_eq_true rfl⟩ dX9_machine_2 (fun H locs hst => ?_)
  refine lv_if_ne (tgt := 10) hx hb dX9_machine_5 (by decide) (fun c_5 => ?_) (fun c_5 => ?_)
  · have hf := ifn c_5 hf
    refine lv_iload_n hx hb dX9_machine_10 rfl (lv_at hl 2 rfl) ?_
    refine lv_if_ne (tgt := 23) hx hb dX9_machine_11 (by decide) (fun c_11 => ?_) (fun c_11 => ?_)
    · have hf := ifn c_11 hf
      refine lv_iload_n hx hb dX9_machine_23 rfl (lv_at hl 2 rfl) ?_
      refine lv_iconst (v := 1) hx hb dX9_machine_24 (by decide) ?_
      refine lv_icmp_ne (tgt := 37) hx hb dX9_machine_25 (by decide) (fun c_25 => ?_) (fun c_25 => ?_)
      · have hf := ifn c_25 hf
        refine lv_iload_n hx hb dX9_machine_37 rfl (lv_at hl 2 rfl) ?_
        refine lv_iconst (v := 2) hx hb dX9_machine_38 (by decide) ?_
        refine lv_icmp_ne (tgt := 51) hx hb dX9_machine_39 (by decide) (fun c_39 => ?_) (fun c_39 => ?_)
        · have hf := ifn c_39 hf
          refine lv_iload_n hx hb dX9_machine_51 rfl (lv_at hl 2 rfl) ?_
          refine lv_iconst (v := 3) hx hb dX9_machine_52 (by decide) ?_
          refine lv_icmp_ne (tgt := 65) hx hb dX9_machine_53 (by decide) (fun c_53 => ?_) (fun c_53 => ?_)
          · have hf := ifn c_53 hf
            refine lv_iconst (v := -1) hx hb dX9_machine_65 (by decide) ?_
            obtain ⟨e1, e2⟩ := sinj hf
            subst e1
            subst e2
            exact w_iret C hst dX9_machine_66
          · have hf := ifp c_53 hf
            refine lv_aload_n hx hb dX9_machine_56 rfl (lv_at hl 0 rfl) ?_
            refine gf_X9_36 C hst dX9_machine_57 ?_
            refine lv_iload_n hx hb dX9_machine_60 rfl (lv_at hl 1 rfl) ?_
            obtain ⟨h_61, hf⟩ := og hf
            refine w_iald (N := 40) (f := M_2 8) C hst 8 rfl h_61 dX9_machine_61 ?_
            refine lv_goto (tgt := 66) hx hb dX9_machine_62 (by decide) ?_
            obtain ⟨e1, e2⟩ := sinj hf
            subst e1
            subst e2
            exact w_iret C hst dX9_machine_66
        · have hf := ifp c_39 hf
          refine lv_aload_n hx hb dX9_machine_42 rfl (lv_at hl 0 rfl) ?_
          refine gf_X9_33 C hst dX9_machine_43 ?_
          refine lv_iload_n hx hb dX9_machine_46 rfl (lv_at hl 1 rfl) ?_
          obtain ⟨h_47, hf⟩ := og hf
          refine w_iald (N := 40) (f := M_2 7) C hst 7 rfl h_47 dX9_machine_47 ?_
          refine lv_goto (tgt := 66) hx hb dX9_machine_48 (by decide) ?_
          obtain ⟨e1, e2⟩ := sinj hf
          subst e1
          subst e2
          exact w_iret C hst dX9_machine_66
      · have hf := ifp c_25 hf
        refine lv_aload_n hx hb dX9_machine_28 rfl (lv_at hl 0 rfl) ?_
        refine gf_X9_30 C hst dX9_machine_29 ?_
        refine lv_iload_n hx hb dX9_machine_32 rfl (lv_at hl 1 rfl) ?_
        obtain ⟨h_33, hf⟩ := og hf
        refine w_iald (N := 40) (f := M_2 6) C hst 6 rfl h_33 dX9_machine_33 ?_
        refine lv_goto (tgt := 66) hx hb dX9_machine_34 (by decide) ?_
        obtain ⟨e1, e2⟩ := sinj hf
        subst e1
        subst e2
        exact w_iret C hst dX9_machine_66
    · have hf := ifp c_11 hf
      refine lv_aload_n hx hb dX9_machine_14 rfl (lv_at hl 0 rfl) ?_
      refine gf_X9_27 C hst dX9_machine_15 ?_
      refine lv_iload_n hx hb dX9_machine_18 rfl (lv_at hl 1 rfl) ?_
      obtain ⟨h_19, hf⟩ := og hf
      refine w_iald (N := 40) (f := M_2 5) C hst 5 rfl h_19 dX9_machine_19 ?_
      refine lv_goto (tgt := 66) hx hb dX9_machine_20 (by decide) ?_
      obtain ⟨e1, e2⟩ := sinj hf
      subst e1
      subst e2
      exact w_iret C hst dX9_machine_66
  · have hf := ifp c_5 hf
    refine lv_iconst (v := -1) hx hb dX9_machine_8 (by decide) ?_
    obtain ⟨e1, e2⟩ := sinj hf
    subst e1
    subst e2
    exact w_iret C hst dX9_machine_9
set_option maxRecDepth 100000 in
theorem mX9_machine (l : Launch) (D : va_G) (cI cZ : ClassId) (a : Nat → Nat) (x1 x2 : Int32) (M : Mem) (r : Int32) (M' : Mem) (hf : fX9_machine x1 x2 M = some (r, M')) : MI l D cI cZ (wM cI cZ a) yX9_machine cX9_machine 3 (some .int) 2 43 [.ref (a 0), .int x1, .int x2] M r M' :=
  MI.of (by decide) (Nat.le_of_ble_eq_true rfl) (fun p e s m args below meth c A C hst ls hl => kX9_machine_0 C x1 x2 M s.heap [] ls hf hst hl)

def fX9_cry (x1 x2 : Int32) (M : Mem) : Res :=
  obi (fX9_isIn x1 (0 : Int32) ((M 0 2) - (1 : Int32)) M) (fun r_8 M_8 => (if r_8 = 0 then some ((-1 : Int32), M_8) else (if x2 = (0 : Int32) then if x1 < 0 ∨ 100 ≤ Int32.toNatClampNeg x1 then none else some ((M_8 11 (Int32.toNatClampNeg x1)), M_8) else (if x2 = (1 : Int32) then if x1 < 0 ∨ 100 ≤ Int32.toNatClampNeg x1 then none else some ((M_8 12 (Int32.toNatClampNeg x1)), M_8) else (if x2 = (2 : Int32) then if x1 < 0 ∨ 100 ≤ Int32.toNatClampNeg x1 then none else some ((M_8 13 (Int32.toNatClampNeg x1)), M_8) else (if x2 = (3 : Int32) then if x1 < 0 ∨ 100 ≤ Int32.toNatClampNeg x1 then none else some ((M_8 14 (Int32.toNatClampNeg x1)), M_8) else (if x2 = (4 : Int32) then if x1 < 0 ∨ 100 ≤ Int32.toNatClampNeg x1 then none else (if (M_8 15 (Int32.toNatClampNeg x1)) = 0 then some ((0 : Int32), M_8) else some ((1 : Int32), M_8)) else some ((-1 : Int32), M_8))))))))
theorem calX9_cry : Cal yX9_cry cX9_cry 3 (some .int) 2 := ⟨(mU3 235 rfl rfl), (mU1 10 rfl rfl), by decide +kernel⟩
theorem cavX9_cry : CalV yX9_cry := ⟨(mU3 233 rfl rfl), (mU3 234 rfl rfl)⟩
set_option maxHeartbeats 4000000 in
set_option maxRecDepth 100000 in
theorem kX9_cry_0 {p : Program} {l : Launch} {e : Env} {s : State} {m : MethodId} {args : Array Value} {below : List Frame} {meth : Method} {c : Code} {D : va_G} {cI cZ : ClassId} {a : Nat → Nat} {A : Nat → Prop} {r : Int32} {M' : Mem} (C : Cx p s m args meth c cX9_cry 3 RX9 (some .int) D cI cZ A)  (x1 x2 : Int32) (M : Mem) (H : Heap) (locs : List Loc) (ls : Array Slot) (hf : fX9_cry x1 x2 M = some (r, M')) (hst : St D (wM cI cZ a) A s.heap H locs M) (hl : lv_has ls 3 [(0, .ref (a 0)), (1, .int x1), (2, .int x2)]) : Wi p l e { frames := 1, cells := 0, slots := 0, locals := 22 } s m args below meth c D (wM cI cZ a) A r M' H locs (F0 m 0 ls []) := by
  unfold fX9_cry at hf
  obtain ⟨hx, hb, hml, hown, hU, hr, hlk, hK, hA⟩ := id C
  refine lv_iload_n hx hb dX9_cry_0 rfl (lv_at hl 1 rfl) ?_
  refine lv_iconst (v := 0) hx hb dX9_cry_1 (by decide) ?_
  refine lv_aload_n hx hb dX9_cry_2 rfl (lv_at hl 0 rfl) ?_
  refine gf_X9_131 C hst dX9_cry_3 ?_
  refine lv_iconst (v := 1) hx hb dX9_cry_6 (by decide) ?_
  refine lv_isub hx hb dX9_cry_7 ?_
  obtain ⟨r_8, M_8, hc_8, hf⟩ := obi_some hf
  refine w_cSi (As := [.int x1, .int (0 : Int32), .int ((M 0 2) - (1 : Int32))]) (rest := []) C (wM_ad cI cZ a) (mX9_isIn l D cI cZ a x1 (0 : Int32) ((M 0 2) - (1 : Int32)) M r_8 M_8 hc_8) calX9_isIn casX9_isIn (mU3 135 rfl rfl) hst hl.1 rfl rfl (Nat.le_of_ble_eq_true rfl) ⟨Nat.le_of_ble_eq_true rfl, Nat.le_of_ble_eq_true rfl⟩ dX9_cry_8 (fun H locs hst => ?_)
  refine lv_if_ne (tgt := 16) hx hb dX9_cry_11 (by decide) (fun c_11 => ?_) (fun c_11 => ?_)
  · have hf := ifn c_11 hf
    refine lv_iload_n hx hb dX9_cry_16 rfl (lv_at hl 2 rfl) ?_
    by_cases c_17_0 : x2 = (0 : Int32)
    · have hf := ifp c_17_0 hf
      refine lv_tableIn (tgt := 52) hx hb dX9_cry_17 (by rw [c_17_0]; decide) (by rw [c_17_0]; decide) (by rw [c_17_0]; rfl) (by decide) ?_
      refine lv_aload_n hx hb dX9_cry_52 rfl (lv_at hl 0 rfl) ?_
      refine gf_X9_45 C hst dX9_cry_53 ?_
      refine lv_iload_n hx hb dX9_cry_56 rfl (lv_at hl 1 rfl) ?_
      obtain ⟨h_57, hf⟩ := og hf
      refine w_iald (N := 100) (f := M_8 11) C hst 11 rfl h_57 dX9_cry_57 ?_
      obtain ⟨e1, e2⟩ := sinj hf
      subst e1
      subst e2
      exact w_iret C hst dX9_cry_58
    · have hf := ifn c_17_0 hf
      by_cases c_17_1 : x2 = (1 : Int32)
      · have hf := ifp c_17_1 hf
        refine lv_tableIn (tgt := 59) hx hb dX9_cry_17 (by rw [c_17_1]; decide) (by rw [c_17_1]; decide) (by rw [c_17_1]; rfl) (by decide) ?_
        refine lv_aload_n hx hb dX9_cry_59 rfl (lv_at hl 0 rfl) ?_
        refine gf_X9_48 C hst dX9_cry_60 ?_
        refine lv_iload_n hx hb dX9_cry_63 rfl (lv_at hl 1 rfl) ?_
        obtain ⟨h_64, hf⟩ := og hf
        refine w_iald (N := 100) (f := M_8 12) C hst 12 rfl h_64 dX9_cry_64 ?_
        obtain ⟨e1, e2⟩ := sinj hf
        subst e1
        subst e2
        exact w_iret C hst dX9_cry_65
      · have hf := ifn c_17_1 hf
        by_cases c_17_2 : x2 = (2 : Int32)
        · have hf := ifp c_17_2 hf
          refine lv_tableIn (tgt := 66) hx hb dX9_cry_17 (by rw [c_17_2]; decide) (by rw [c_17_2]; decide) (by rw [c_17_2]; rfl) (by decide) ?_
          refine lv_aload_n hx hb dX9_cry_66 rfl (lv_at hl 0 rfl) ?_
          refine gf_X9_51 C hst dX9_cry_67 ?_
          refine lv_iload_n hx hb dX9_cry_70 rfl (lv_at hl 1 rfl) ?_
          obtain ⟨h_71, hf⟩ := og hf
          refine w_iald (N := 100) (f := M_8 13) C hst 13 rfl h_71 dX9_cry_71 ?_
          obtain ⟨e1, e2⟩ := sinj hf
          subst e1
          subst e2
          exact w_iret C hst dX9_cry_72
        · have hf := ifn c_17_2 hf
          by_cases c_17_3 : x2 = (3 : Int32)
          · have hf := ifp c_17_3 hf
            refine lv_tableIn (tgt := 73) hx hb dX9_cry_17 (by rw [c_17_3]; decide) (by rw [c_17_3]; decide) (by rw [c_17_3]; rfl) (by decide) ?_
            refine lv_aload_n hx hb dX9_cry_73 rfl (lv_at hl 0 rfl) ?_
            refine gf_X9_54 C hst dX9_cry_74 ?_
            refine lv_iload_n hx hb dX9_cry_77 rfl (lv_at hl 1 rfl) ?_
            obtain ⟨h_78, hf⟩ := og hf
            refine w_iald (N := 100) (f := M_8 14) C hst 14 rfl h_78 dX9_cry_78 ?_
            obtain ⟨e1, e2⟩ := sinj hf
            subst e1
            subst e2
            exact w_iret C hst dX9_cry_79
          · have hf := ifn c_17_3 hf
            by_cases c_17_4 : x2 = (4 : Int32)
            · have hf := ifp c_17_4 hf
              refine lv_tableIn (tgt := 80) hx hb dX9_cry_17 (by rw [c_17_4]; decide) (by rw [c_17_4]; decide) (by rw [c_17_4]; rfl) (by decide) ?_
              refine lv_aload_n hx hb dX9_cry_80 rfl (lv_at hl 0 rfl) ?_
              refine gf_X9_57 C hst dX9_cry_81 ?_
              refine lv_iload_n hx hb dX9_cry_84 rfl (lv_at hl 1 rfl) ?_
              obtain ⟨h_85, hf⟩ := og hf
              refine w_zald (N := 100) (f := M_8 15) C hst 15 rfl h_85 dX9_cry_85 ?_
              refine lv_if_eq (tgt := 93) hx hb dX9_cry_86 (by decide) (fun c_86 => ?_) (fun c_86 => ?_)
              · have hf := ifp c_86 hf
                refine lv_iconst (v := 0) hx hb dX9_cry_93 (by decide) ?_
                obtain ⟨e1, e2⟩ := sinj hf
                subst e1
                subst e2
                exact w_iret C hst dX9_cry_94
              · have hf := ifn c_86 hf
                refine lv_iconst (v := 1) hx hb dX9_cry_89 (by decide) ?_
                refine lv_goto (tgt := 94) hx hb dX9_cry_90 (by decide) ?_
                obtain ⟨e1, e2⟩ := sinj hf
                subst e1
                subst e2
                exact w_iret C hst dX9_cry_94
            · have hf := ifn c_17_4 hf
              refine lv_tableOut (tgt := 95) hx hb dX9_cry_17 (tsO 4 (fun k hk => by rcases (show k = 0 ∨ k = 1 ∨ k = 2 ∨ k = 3 ∨ k = 4 by omega) with rfl | rfl | rfl | rfl | rfl <;> assumption)) (by decide) ?_
              refine lv_iconst (v := -1) hx hb dX9_cry_95 (by decide) ?_
              obtain ⟨e1, e2⟩ := sinj hf
              subst e1
              subst e2
              exact w_iret C hst dX9_cry_96
  · have hf := ifp c_11 hf
    refine lv_iconst (v := -1) hx hb dX9_cry_14 (by decide) ?_
    obtain ⟨e1, e2⟩ := sinj hf
    subst e1
    subst e2
    exact w_iret C hst dX9_cry_15
set_option maxRecDepth 100000 in
theorem mX9_cry (l : Launch) (D : va_G) (cI cZ : ClassId) (a : Nat → Nat) (x1 x2 : Int32) (M : Mem) (r : Int32) (M' : Mem) (hf : fX9_cry x1 x2 M = some (r, M')) : MI l D cI cZ (wM cI cZ a) yX9_cry cX9_cry 3 (some .int) 1 22 [.ref (a 0), .int x1, .int x2] M r M' :=
  MI.of (by decide) (Nat.le_of_ble_eq_true rfl) (fun p e s m args below meth c A C hst ls hl => kX9_cry_0 C x1 x2 M s.heap [] ls hf hst hl)

def gX9_part_208 (x1 x2 x3 x4 x5 x6 x7 x8 z0 z1 : Int32) (M : Mem) : Res :=
  some ((z0 + z1), M)
def gX9_part_172 (K121 : Int32 → Int32 → Int32 → Int32 → Int32 → Int32 → Int32 → Int32 → Mem → Res) (x1 x2 x3 x4 x5 x6 x7 x8 x9 z0 z1 : Int32) (M : Mem) : Res :=
  K121 x1 x2 x3 x4 x5 x6 (z0 + z1) (x8 + 1) M
def gX9_part_171 (K121 : Int32 → Int32 → Int32 → Int32 → Int32 → Int32 → Int32 → Int32 → Mem → Res) (x1 x2 x3 x4 x5 x6 x7 x8 x9 z0 : Int32) (M : Mem) : Res :=
  gX9_part_172 K121 x1 x2 x3 x4 x5 x6 x7 x8 x9 z0 (0 : Int32) M
def gX9_part_167 (K121 : Int32 → Int32 → Int32 → Int32 → Int32 → Int32 → Int32 → Int32 → Mem → Res) (x1 x2 x3 x4 x5 x6 x7 x8 x9 z0 : Int32) (M : Mem) : Res :=
  gX9_part_172 K121 x1 x2 x3 x4 x5 x6 x7 x8 x9 z0 (1 : Int32) M
def gX9_part_121 (K121 : Int32 → Int32 → Int32 → Int32 → Int32 → Int32 → Int32 → Int32 → Mem → Res) (x1 x2 x3 x4 x5 x6 x7 x8 : Int32) (M : Mem) : Res :=
  (if (4 : Int32) ≤ x8 then if (((4 : Int32) * x1) + x3) < 0 ∨ 24 ≤ Int32.toNatClampNeg (((4 : Int32) * x1) + x3) then none else if x4 = 0 then none else (if x5 ≤ x7 then gX9_part_208  x1 x2 x3 x4 x5 x6 x7 x8 ((x2 * (M 1 (Int32.toNatClampNeg (((4 : Int32) * x1) + x3)))) / x4) (0 : Int32) M else gX9_part_208  x1 x2 x3 x4 x5 x6 x7 x8 ((x2 * (M 1 (Int32.toNatClampNeg (((4 : Int32) * x1) + x3)))) / x4) (1 : Int32) M) else if (((4 : Int32) * x1) + x8) < 0 ∨ 24 ≤ Int32.toNatClampNeg (((4 : Int32) * x1) + x8) then none else if x4 = 0 then none else (if x6 < ((x2 * (M 1 (Int32.toNatClampNeg (((4 : Int32) * x1) + x8)))) - ((x2 * (M 1 (Int32.toNatClampNeg (((4 : Int32) * x1) + x8)))) / x4) * x4) then gX9_part_167 K121 x1 x2 x3 x4 x5 x6 x7 x8 ((x2 * (M 1 (Int32.toNatClampNeg (((4 : Int32) * x1) + x8)))) - ((x2 * (M 1 (Int32.toNatClampNeg (((4 : Int32) * x1) + x8)))) / x4) * x4) x7 M else (if ((x2 * (M 1 (Int32.toNatClampNeg (((4 : Int32) * x1) + x8)))) - ((x2 * (M 1 (Int32.toNatClampNeg (((4 : Int32) * x1) + x8)))) / x4) * x4) = x6 then (if x3 ≤ x8 then gX9_part_171 K121 x1 x2 x3 x4 x5 x6 x7 x8 ((x2 * (M 1 (Int32.toNatClampNeg (((4 : Int32) * x1) + x8)))) - ((x2 * (M 1 (Int32.toNatClampNeg (((4 : Int32) * x1) + x8)))) / x4) * x4) x7 M else gX9_part_167 K121 x1 x2 x3 x4 x5 x6 x7 x8 ((x2 * (M 1 (Int32.toNatClampNeg (((4 : Int32) * x1) + x8)))) - ((x2 * (M 1 (Int32.toNatClampNeg (((4 : Int32) * x1) + x8)))) / x4) * x4) x7 M) else gX9_part_171 K121 x1 x2 x3 x4 x5 x6 x7 x8 ((x2 * (M 1 (Int32.toNatClampNeg (((4 : Int32) * x1) + x8)))) - ((x2 * (M 1 (Int32.toNatClampNeg (((4 : Int32) * x1) + x8)))) / x4) * x4) x7 M)))
def lX9_part_121 : Nat → Int32 → Int32 → Int32 → Int32 → Int32 → Int32 → Int32 → Int32 → Mem → Res
  | 0, _, _, _, _, _, _, _, _, _ => none
  | n + 1, x1, x2, x3, x4, x5, x6, x7, x8, M => gX9_part_121 (lX9_part_121 n) x1 x2 x3 x4 x5 x6 x7 x8 M
def gX9_part_65 (K65 : Int32 → Int32 → Int32 → Int32 → Int32 → Int32 → Mem → Res) (x1 x2 x3 x4 x5 x6 : Int32) (M : Mem) : Res :=
  (if (4 : Int32) ≤ x6 then if (((4 : Int32) * x1) + x3) < 0 ∨ 24 ≤ Int32.toNatClampNeg (((4 : Int32) * x1) + x3) then none else if x4 = 0 then none else lX9_part_121  fu x1 x2 x3 x4 x5 ((x2 * (M 1 (Int32.toNatClampNeg (((4 : Int32) * x1) + x3)))) - ((x2 * (M 1 (Int32.toNatClampNeg (((4 : Int32) * x1) + x3)))) / x4) * x4) (0 : Int32) (0 : Int32) M else if (((4 : Int32) * x1) + x6) < 0 ∨ 24 ≤ Int32.toNatClampNeg (((4 : Int32) * x1) + x6) then none else if x4 = 0 then none else K65 x1 x2 x3 x4 (x5 - ((x2 * (M 1 (Int32.toNatClampNeg (((4 : Int32) * x1) + x6)))) / x4)) (x6 + 1) M)
def lX9_part_65 : Nat → Int32 → Int32 → Int32 → Int32 → Int32 → Int32 → Mem → Res
  | 0, _, _, _, _, _, _, _ => none
  | n + 1, x1, x2, x3, x4, x5, x6, M => gX9_part_65 (lX9_part_65 n) x1 x2 x3 x4 x5 x6 M
def gX9_part_31 (K31 : Int32 → Int32 → Int32 → Int32 → Int32 → Mem → Res) (x1 x2 x3 x4 x5 : Int32) (M : Mem) : Res :=
  (if (4 : Int32) ≤ x5 then lX9_part_65  fu x1 x2 x3 x4 x2 (0 : Int32) M else if (((4 : Int32) * x1) + x5) < 0 ∨ 24 ≤ Int32.toNatClampNeg (((4 : Int32) * x1) + x5) then none else K31 x1 x2 x3 (x4 + (M 1 (Int32.toNatClampNeg (((4 : Int32) * x1) + x5)))) (x5 + 1) M)
def lX9_part_31 : Nat → Int32 → Int32 → Int32 → Int32 → Int32 → Mem → Res
  | 0, _, _, _, _, _, _ => none
  | n + 1, x1, x2, x3, x4, x5, M => gX9_part_31 (lX9_part_31 n) x1 x2 x3 x4 x5 M
def fX9_part (x1 x2 x3 : Int32) (M : Mem) : Res :=
  if x1 < 0 ∨ 6 ≤ Int32.toNatClampNeg x1 then none else (if (M 3 (Int32.toNatClampNeg x1)) = 0 then (if (M 4 (Int32.toNatClampNeg x1)) = x3 then some (x2, M) else some ((0 : Int32), M)) else lX9_part_31  fu x1 x2 x3 (0 : Int32) (0 : Int32) M)
theorem calX9_part : Cal yX9_part cX9_part 10 (some .int) 3 := ⟨(mU4 11 rfl rfl), (mU1 10 rfl rfl), by decide +kernel⟩
theorem cavX9_part : CalV yX9_part := ⟨(mU4 10 rfl rfl), (mS2 8 rfl)⟩
set_option maxHeartbeats 4000000 in
set_option maxRecDepth 100000 in
theorem kX9_part_208 {p : Program} {l : Launch} {e : Env} {s : State} {m : MethodId} {args : Array Value} {below : List Frame} {meth : Method} {c : Code} {D : va_G} {cI cZ : ClassId} {a : Nat → Nat} {A : Nat → Prop} {r : Int32} {M' : Mem} (C : Cx p s m args meth c cX9_part 10 RX9 (some .int) D cI cZ A)  (x1 x2 x3 x4 x5 x6 x7 x8 z0 z1 : Int32) (M : Mem) (H : Heap) (locs : List Loc) (ls : Array Slot) (hf : gX9_part_208 x1 x2 x3 x4 x5 x6 x7 x8 z0 z1 M = some (r, M')) (hst : St D (wM cI cZ a) A s.heap H locs M) (hl : lv_has ls 10 [(0, .ref (a 0)), (1, .int x1), (2, .int x2), (3, .int x3), (4, .int x4), (5, .int x5), (6, .int x6), (7, .int x7), (8, .int x8)]) : Wi p l e { frames := 0, cells := 0, slots := 0, locals := 0 } s m args below meth c D (wM cI cZ a) A r M' H locs (F0 m 208 ls [.int z1, .int z0]) := by
  unfold gX9_part_208 at hf
  obtain ⟨hx, hb, hml, hown, hU, hr, hlk, hK, hA⟩ := id C
  refine lv_iadd hx hb dX9_part_208 ?_
  obtain ⟨e1, e2⟩ := sinj hf
  subst e1
  subst e2
  exact w_iret C hst dX9_part_209
set_option maxHeartbeats 4000000 in
set_option maxRecDepth 100000 in
theorem kX9_part_172 {p : Program} {l : Launch} {e : Env} {s : State} {m : MethodId} {args : Array Value} {below : List Frame} {meth : Method} {c : Code} {D : va_G} {cI cZ : ClassId} {a : Nat → Nat} {A : Nat → Prop} {r : Int32} {M' : Mem} (C : Cx p s m args meth c cX9_part 10 RX9 (some .int) D cI cZ A) (K121 : Int32 → Int32 → Int32 → Int32 → Int32 → Int32 → Int32 → Int32 → Mem → Res) (hK121 : ∀ (x1 x2 x3 x4 x5 x6 x7 x8 : Int32) (M : Mem) (H : Heap) (locs : List Loc) (ls : Array Slot), K121 x1 x2 x3 x4 x5 x6 x7 x8 M = some (r, M') → St D (wM cI cZ a) A s.heap H locs M → lv_has ls 10 [(0, .ref (a 0)), (1, .int x1), (2, .int x2), (3, .int x3), (4, .int x4), (5, .int x5), (6, .int x6), (7, .int x7), (8, .int x8)] → Wi p l e { frames := 0, cells := 0, slots := 0, locals := 0 } s m args below meth c D (wM cI cZ a) A r M' H locs (F0 m 121 ls [])) (x1 x2 x3 x4 x5 x6 x7 x8 x9 z0 z1 : Int32) (M : Mem) (H : Heap) (locs : List Loc) (ls : Array Slot) (hf : gX9_part_172 K121 x1 x2 x3 x4 x5 x6 x7 x8 x9 z0 z1 M = some (r, M')) (hst : St D (wM cI cZ a) A s.heap H locs M) (hl : lv_has ls 10 [(0, .ref (a 0)), (1, .int x1), (2, .int x2), (3, .int x3), (4, .int x4), (5, .int x5), (6, .int x6), (7, .int x7), (8, .int x8), (9, .int x9)]) : Wi p l e { frames := 0, cells := 0, slots := 0, locals := 0 } s m args below meth c D (wM cI cZ a) A r M' H locs (F0 m 172 ls [.int z1, .int z0]) := by
  unfold gX9_part_172 at hf
  obtain ⟨hx, hb, hml, hown, hU, hr, hlk, hK, hA⟩ := id C
  refine lv_iadd hx hb dX9_part_172 ?_
  refine lv_istore (lv' := [(7, .int (z0 + z1)), (0, .ref (a 0)), (1, .int x1), (2, .int x2), (3, .int x3), (4, .int x4), (5, .int x5), (6, .int x6), (8, .int x8), (9, .int x9)]) hx hb dX9_part_173 hl (by decide) rfl (fun ls hl => ?_)
  refine lv_iinc (v := (x8 + 1)) (lv' := [(8, .int (x8 + 1)), (7, .int (z0 + z1)), (0, .ref (a 0)), (1, .int x1), (2, .int x2), (3, .int x3), (4, .int x4), (5, .int x5), (6, .int x6), (9, .int x9)]) hx hb dX9_part_175 hl (k := 8) rfl rfl (by decide) rfl (fun ls hl => ?_)
  refine lv_goto (tgt := 121) hx hb dX9_part_178 (by decide) ?_
  exact hK121 x1 x2 x3 x4 x5 x6 (z0 + z1) (x8 + 1) M _ _ _ hf hst (lv_sub hl [2, 3, 4, 5, 6, 7, 8, 1, 0] rfl)
set_option maxHeartbeats 4000000 in
set_option maxRecDepth 100000 in
theorem kX9_part_171 {p : Program} {l : Launch} {e : Env} {s : State} {m : MethodId} {args : Array Value} {below : List Frame} {meth : Method} {c : Code} {D : va_G} {cI cZ : ClassId} {a : Nat → Nat} {A : Nat → Prop} {r : Int32} {M' : Mem} (C : Cx p s m args meth c cX9_part 10 RX9 (some .int) D cI cZ A) (K121 : Int32 → Int32 → Int32 → Int32 → Int32 → Int32 → Int32 → Int32 → Mem → Res) (hK121 : ∀ (x1 x2 x3 x4 x5 x6 x7 x8 : Int32) (M : Mem) (H : Heap) (locs : List Loc) (ls : Array Slot), K121 x1 x2 x3 x4 x5 x6 x7 x8 M = some (r, M') → St D (wM cI cZ a) A s.heap H locs M → lv_has ls 10 [(0, .ref (a 0)), (1, .int x1), (2, .int x2), (3, .int x3), (4, .int x4), (5, .int x5), (6, .int x6), (7, .int x7), (8, .int x8)] → Wi p l e { frames := 0, cells := 0, slots := 0, locals := 0 } s m args below meth c D (wM cI cZ a) A r M' H locs (F0 m 121 ls [])) (x1 x2 x3 x4 x5 x6 x7 x8 x9 z0 : Int32) (M : Mem) (H : Heap) (locs : List Loc) (ls : Array Slot) (hf : gX9_part_171 K121 x1 x2 x3 x4 x5 x6 x7 x8 x9 z0 M = some (r, M')) (hst : St D (wM cI cZ a) A s.heap H locs M) (hl : lv_has ls 10 [(0, .ref (a 0)), (1, .int x1), (2, .int x2), (3, .int x3), (4, .int x4), (5, .int x5), (6, .int x6), (7, .int x7), (8, .int x8), (9, .int x9)]) : Wi p l e { frames := 0, cells := 0, slots := 0, locals := 0 } s m args below meth c D (wM cI cZ a) A r M' H locs (F0 m 171 ls [.int z0]) := by
  unfold gX9_part_171 at hf
  obtain ⟨hx, hb, hml, hown, hU, hr, hlk, hK, hA⟩ := id C
  refine lv_iconst (v := 0) hx hb dX9_part_171 (by decide) ?_
  exact kX9_part_172 C K121 hK121 x1 x2 x3 x4 x5 x6 x7 x8 x9 z0 (0 : Int32) M _ _ _ hf hst (lv_sub hl [0, 1, 2, 3, 4, 5, 6, 7, 8, 9] rfl)
set_option maxHeartbeats 4000000 in
set_option maxRecDepth 100000 in
theorem kX9_part_167 {p : Program} {l : Launch} {e : Env} {s : State} {m : MethodId} {args : Array Value} {below : List Frame} {meth : Method} {c : Code} {D : va_G} {cI cZ : ClassId} {a : Nat → Nat} {A : Nat → Prop} {r : Int32} {M' : Mem} (C : Cx p s m args meth c cX9_part 10 RX9 (some .int) D cI cZ A) (K121 : Int32 → Int32 → Int32 → Int32 → Int32 → Int32 → Int32 → Int32 → Mem → Res) (hK121 : ∀ (x1 x2 x3 x4 x5 x6 x7 x8 : Int32) (M : Mem) (H : Heap) (locs : List Loc) (ls : Array Slot), K121 x1 x2 x3 x4 x5 x6 x7 x8 M = some (r, M') → St D (wM cI cZ a) A s.heap H locs M → lv_has ls 10 [(0, .ref (a 0)), (1, .int x1), (2, .int x2), (3, .int x3), (4, .int x4), (5, .int x5), (6, .int x6), (7, .int x7), (8, .int x8)] → Wi p l e { frames := 0, cells := 0, slots := 0, locals := 0 } s m args below meth c D (wM cI cZ a) A r M' H locs (F0 m 121 ls [])) (x1 x2 x3 x4 x5 x6 x7 x8 x9 z0 : Int32) (M : Mem) (H : Heap) (locs : List Loc) (ls : Array Slot) (hf : gX9_part_167 K121 x1 x2 x3 x4 x5 x6 x7 x8 x9 z0 M = some (r, M')) (hst : St D (wM cI cZ a) A s.heap H locs M) (hl : lv_has ls 10 [(0, .ref (a 0)), (1, .int x1), (2, .int x2), (3, .int x3), (4, .int x4), (5, .int x5), (6, .int x6), (7, .int x7), (8, .int x8), (9, .int x9)]) : Wi p l e { frames := 0, cells := 0, slots := 0, locals := 0 } s m args below meth c D (wM cI cZ a) A r M' H locs (F0 m 167 ls [.int z0]) := by
  unfold gX9_part_167 at hf
  obtain ⟨hx, hb, hml, hown, hU, hr, hlk, hK, hA⟩ := id C
  refine lv_iconst (v := 1) hx hb dX9_part_167 (by decide) ?_
  refine lv_goto (tgt := 172) hx hb dX9_part_168 (by decide) ?_
  exact kX9_part_172 C K121 hK121 x1 x2 x3 x4 x5 x6 x7 x8 x9 z0 (1 : Int32) M _ _ _ hf hst (lv_sub hl [0, 1, 2, 3, 4, 5, 6, 7, 8, 9] rfl)
set_option maxHeartbeats 4000000 in
set_option maxRecDepth 100000 in
theorem kX9_part_121 {p : Program} {l : Launch} {e : Env} {s : State} {m : MethodId} {args : Array Value} {below : List Frame} {meth : Method} {c : Code} {D : va_G} {cI cZ : ClassId} {a : Nat → Nat} {A : Nat → Prop} {r : Int32} {M' : Mem} (C : Cx p s m args meth c cX9_part 10 RX9 (some .int) D cI cZ A) (K121 : Int32 → Int32 → Int32 → Int32 → Int32 → Int32 → Int32 → Int32 → Mem → Res) (hK121 : ∀ (x1 x2 x3 x4 x5 x6 x7 x8 : Int32) (M : Mem) (H : Heap) (locs : List Loc) (ls : Array Slot), K121 x1 x2 x3 x4 x5 x6 x7 x8 M = some (r, M') → St D (wM cI cZ a) A s.heap H locs M → lv_has ls 10 [(0, .ref (a 0)), (1, .int x1), (2, .int x2), (3, .int x3), (4, .int x4), (5, .int x5), (6, .int x6), (7, .int x7), (8, .int x8)] → Wi p l e { frames := 0, cells := 0, slots := 0, locals := 0 } s m args below meth c D (wM cI cZ a) A r M' H locs (F0 m 121 ls [])) (x1 x2 x3 x4 x5 x6 x7 x8 : Int32) (M : Mem) (H : Heap) (locs : List Loc) (ls : Array Slot) (hf : gX9_part_121 K121 x1 x2 x3 x4 x5 x6 x7 x8 M = some (r, M')) (hst : St D (wM cI cZ a) A s.heap H locs M) (hl : lv_has ls 10 [(0, .ref (a 0)), (1, .int x1), (2, .int x2), (3, .int x3), (4, .int x4), (5, .int x5), (6, .int x6), (7, .int x7), (8, .int x8)]) : Wi p l e { frames := 0, cells := 0, slots := 0, locals := 0 } s m args below meth c D (wM cI cZ a) A r M' H locs (F0 m 121 ls []) := by
  unfold gX9_part_121 at hf
  obtain ⟨hx, hb, hml, hown, hU, hr, hlk, hK, hA⟩ := id C
  refine lv_iload hx hb dX9_part_121 (lv_at hl 8 rfl) ?_
  refine lv_iconst (v := 4) hx hb dX9_part_123 (by decide) ?_
  refine lv_icmp_ge (tgt := 181) hx hb dX9_part_124 (by decide) (fun c_124 => ?_) (fun c_124 => ?_)
  · have hf := ifp c_124 hf
    refine lv_iload_n hx hb dX9_part_181 rfl (lv_at hl 2 rfl) ?_
    refine lv_aload_n hx hb dX9_part_182 rfl (lv_at hl 0 rfl) ?_
    refine gf_X9_13 C hst dX9_part_183 ?_
    refine lv_iconst (v := 4) hx hb dX9_part_186 (by decide) ?_
    refine lv_iload_n hx hb dX9_part_187 rfl (lv_at hl 1 rfl) ?_
    refine lv_imul hx hb dX9_part_188 ?_
    refine lv_iload_n hx hb dX9_part_189 rfl (lv_at hl 3 rfl) ?_
    refine lv_iadd hx hb dX9_part_190 ?_
    obtain ⟨h_191, hf⟩ := og hf
    refine w_iald (N := 24) (f := M 1) C hst 1 rfl h_191 dX9_part_191 ?_
    refine lv_imul hx hb dX9_part_192 ?_
    refine lv_iload hx hb dX9_part_193 (lv_at hl 4 rfl) ?_
    obtain ⟨h_195, hf⟩ := og hf
    refine lv_idiv hx hb dX9_part_195 h_195 ?_
    refine lv_iload hx hb dX9_part_196 (lv_at hl 7 rfl) ?_
    refine lv_iload hx hb dX9_part_198 (lv_at hl 5 rfl) ?_
    refine lv_icmp_ge (tgt := 207) hx hb dX9_part_200 (by decide) (fun c_200 => ?_) (fun c_200 => ?_)
    · have hf := ifp c_200 hf
      refine lv_iconst (v := 0) hx hb dX9_part_207 (by decide) ?_
      exact kX9_part_208 C  x1 x2 x3 x4 x5 x6 x7 x8 ((x2 * (M 1 (Int32.toNatClampNeg (((4 : Int32) * x1) + x3)))) / x4) (0 : Int32) M _ _ _ hf hst (lv_sub hl [0, 1, 2, 3, 4, 5, 6, 7, 8] rfl)
    · have hf := ifn c_200 hf
      refine lv_iconst (v := 1) hx hb dX9_part_203 (by decide) ?_
      refine lv_goto (tgt := 208) hx hb dX9_part_204 (by decide) ?_
      exact kX9_part_208 C  x1 x2 x3 x4 x5 x6 x7 x8 ((x2 * (M 1 (Int32.toNatClampNeg (((4 : Int32) * x1) + x3)))) / x4) (1 : Int32) M _ _ _ hf hst (lv_sub hl [0, 1, 2, 3, 4, 5, 6, 7, 8] rfl)
  · have hf := ifn c_124 hf
    refine lv_iload_n hx hb dX9_part_127 rfl (lv_at hl 2 rfl) ?_
    refine lv_aload_n hx hb dX9_part_128 rfl (lv_at hl 0 rfl) ?_
    refine gf_X9_13 C hst dX9_part_129 ?_
    refine lv_iconst (v := 4) hx hb dX9_part_132 (by decide) ?_
    refine lv_iload_n hx hb dX9_part_133 rfl (lv_at hl 1 rfl) ?_
    refine lv_imul hx hb dX9_part_134 ?_
    refine lv_iload hx hb dX9_part_135 (lv_at hl 8 rfl) ?_
    refine lv_iadd hx hb dX9_part_137 ?_
    obtain ⟨h_138, hf⟩ := og hf
    refine w_iald (N := 24) (f := M 1) C hst 1 rfl h_138 dX9_part_138 ?_
    refine lv_imul hx hb dX9_part_139 ?_
    refine lv_iload hx hb dX9_part_140 (lv_at hl 4 rfl) ?_
    obtain ⟨h_142, hf⟩ := og hf
    refine lv_irem hx hb dX9_part_142 h_142 ?_
    refine lv_istore (lv' := [(9, .int ((x2 * (M 1 (Int32.toNatClampNeg (((4 : Int32) * x1) + x8)))) - ((x2 * (M 1 (Int32.toNatClampNeg (((4 : Int32) * x1) + x8)))) / x4) * x4)), (0, .ref (a 0)), (1, .int x1), (2, .int x2), (3, .int x3), (4, .int x4), (5, .int x5), (6, .int x6), (7, .int x7), (8, .int x8)]) hx hb dX9_part_143 hl (by decide) rfl (fun ls hl => ?_)
    refine lv_iload hx hb dX9_part_145 (lv_at hl 8 rfl) ?_
    refine lv_iload hx hb dX9_part_147 (lv_at hl 0 rfl) ?_
    refine lv_iload hx hb dX9_part_149 (lv_at hl 7 rfl) ?_
    refine lv_icmp_gt (tgt := 167) hx hb dX9_part_151 (by decide) (fun c_151 => ?_) (fun c_151 => ?_)
    · have hf := ifp c_151 hf
      exact kX9_part_167 C K121 hK121 x1 x2 x3 x4 x5 x6 x7 x8 ((x2 * (M 1 (Int32.toNatClampNeg (((4 : Int32) * x1) + x8)))) - ((x2 * (M 1 (Int32.toNatClampNeg (((4 : Int32) * x1) + x8)))) / x4) * x4) x7 M _ _ _ hf hst (lv_sub hl [1, 2, 3, 4, 5, 6, 7, 8, 9, 0] rfl)
    · have hf := ifn c_151 hf
      refine lv_iload hx hb dX9_part_154 (lv_at hl 0 rfl) ?_
      refine lv_iload hx hb dX9_part_156 (lv_at hl 7 rfl) ?_
      refine lv_icmp_ne (tgt := 171) hx hb dX9_part_158 (by decide) (fun c_158 => ?_) (fun c_158 => ?_)
      · have hf := ifn c_158 hf
        exact kX9_part_171 C K121 hK121 x1 x2 x3 x4 x5 x6 x7 x8 ((x2 * (M 1 (Int32.toNatClampNeg (((4 : Int32) * x1) + x8)))) - ((x2 * (M 1 (Int32.toNatClampNeg (((4 : Int32) * x1) + x8)))) / x4) * x4) x7 M _ _ _ hf hst (lv_sub hl [1, 2, 3, 4, 5, 6, 7, 8, 9, 0] rfl)
      · have hf := ifp c_158 hf
        refine lv_iload hx hb dX9_part_161 (lv_at hl 9 rfl) ?_
        refine lv_iload_n hx hb dX9_part_163 rfl (lv_at hl 4 rfl) ?_
        refine lv_icmp_ge (tgt := 171) hx hb dX9_part_164 (by decide) (fun c_164 => ?_) (fun c_164 => ?_)
        · have hf := ifp c_164 hf
          exact kX9_part_171 C K121 hK121 x1 x2 x3 x4 x5 x6 x7 x8 ((x2 * (M 1 (Int32.toNatClampNeg (((4 : Int32) * x1) + x8)))) - ((x2 * (M 1 (Int32.toNatClampNeg (((4 : Int32) * x1) + x8)))) / x4) * x4) x7 M _ _ _ hf hst (lv_sub hl [1, 2, 3, 4, 5, 6, 7, 8, 9, 0] rfl)
        · have hf := ifn c_164 hf
          exact kX9_part_167 C K121 hK121 x1 x2 x3 x4 x5 x6 x7 x8 ((x2 * (M 1 (Int32.toNatClampNeg (((4 : Int32) * x1) + x8)))) - ((x2 * (M 1 (Int32.toNatClampNeg (((4 : Int32) * x1) + x8)))) / x4) * x4) x7 M _ _ _ hf hst (lv_sub hl [1, 2, 3, 4, 5, 6, 7, 8, 9, 0] rfl)
theorem tX9_part_121 {p : Program} {l : Launch} {e : Env} {s : State} {m : MethodId} {args : Array Value} {below : List Frame} {meth : Method} {c : Code} {D : va_G} {cI cZ : ClassId} {a : Nat → Nat} {A : Nat → Prop} {r : Int32} {M' : Mem} (C : Cx p s m args meth c cX9_part 10 RX9 (some .int) D cI cZ A)  : ∀ (n : Nat) (x1 x2 x3 x4 x5 x6 x7 x8 : Int32) (M : Mem) (H : Heap) (locs : List Loc) (ls : Array Slot), lX9_part_121 n x1 x2 x3 x4 x5 x6 x7 x8 M = some (r, M') → St D (wM cI cZ a) A s.heap H locs M → lv_has ls 10 [(0, .ref (a 0)), (1, .int x1), (2, .int x2), (3, .int x3), (4, .int x4), (5, .int x5), (6, .int x6), (7, .int x7), (8, .int x8)] → Wi p l e { frames := 0, cells := 0, slots := 0, locals := 0 } s m args below meth c D (wM cI cZ a) A r M' H locs (F0 m 121 ls []) := by
  intro n
  induction n with
  | zero =>
    intro x1 x2 x3 x4 x5 x6 x7 x8 M H locs ls hf
    exact nomatch (show (none : Res) = some (r, M') from hf)
  | succ n ih =>
    intro x1 x2 x3 x4 x5 x6 x7 x8 M H locs ls hf hst hl
    exact kX9_part_121 C (lX9_part_121 n) ih x1 x2 x3 x4 x5 x6 x7 x8 M H locs ls hf hst hl

set_option maxHeartbeats 4000000 in
set_option maxRecDepth 100000 in
theorem kX9_part_65 {p : Program} {l : Launch} {e : Env} {s : State} {m : MethodId} {args : Array Value} {below : List Frame} {meth : Method} {c : Code} {D : va_G} {cI cZ : ClassId} {a : Nat → Nat} {A : Nat → Prop} {r : Int32} {M' : Mem} (C : Cx p s m args meth c cX9_part 10 RX9 (some .int) D cI cZ A) (K65 : Int32 → Int32 → Int32 → Int32 → Int32 → Int32 → Mem → Res) (hK65 : ∀ (x1 x2 x3 x4 x5 x6 : Int32) (M : Mem) (H : Heap) (locs : List Loc) (ls : Array Slot), K65 x1 x2 x3 x4 x5 x6 M = some (r, M') → St D (wM cI cZ a) A s.heap H locs M → lv_has ls 10 [(0, .ref (a 0)), (1, .int x1), (2, .int x2), (3, .int x3), (4, .int x4), (5, .int x5), (6, .int x6)] → Wi p l e { frames := 0, cells := 0, slots := 0, locals := 0 } s m args below meth c D (wM cI cZ a) A r M' H locs (F0 m 65 ls [])) (x1 x2 x3 x4 x5 x6 : Int32) (M : Mem) (H : Heap) (locs : List Loc) (ls : Array Slot) (hf : gX9_part_65 K65 x1 x2 x3 x4 x5 x6 M = some (r, M')) (hst : St D (wM cI cZ a) A s.heap H locs M) (hl : lv_has ls 10 [(0, .ref (a 0)), (1, .int x1), (2, .int x2), (3, .int x3), (4, .int x4), (5, .int x5), (6, .int x6)]) : Wi p l e { frames := 0, cells := 0, slots := 0, locals := 0 } s m args below meth c D (wM cI cZ a) A r M' H locs (F0 m 65 ls []) := by
  unfold gX9_part_65 at hf
  obtain ⟨hx, hb, hml, hown, hU, hr, hlk, hK, hA⟩ := id C
  refine lv_iload hx hb dX9_part_65 (lv_at hl 6 rfl) ?_
  refine lv_iconst (v := 4) hx hb dX9_part_67 (by decide) ?_
  refine lv_icmp_ge (tgt := 98) hx hb dX9_part_68 (by decide) (fun c_68 => ?_) (fun c_68 => ?_)
  · have hf := ifp c_68 hf
    refine lv_iload_n hx hb dX9_part_98 rfl (lv_at hl 2 rfl) ?_
    refine lv_aload_n hx hb dX9_part_99 rfl (lv_at hl 0 rfl) ?_
    refine gf_X9_13 C hst dX9_part_100 ?_
    refine lv_iconst (v := 4) hx hb dX9_part_103 (by decide) ?_
    refine lv_iload_n hx hb dX9_part_104 rfl (lv_at hl 1 rfl) ?_
    refine lv_imul hx hb dX9_part_105 ?_
    refine lv_iload_n hx hb dX9_part_106 rfl (lv_at hl 3 rfl) ?_
    refine lv_iadd hx hb dX9_part_107 ?_
    obtain ⟨h_108, hf⟩ := og hf
    refine w_iald (N := 24) (f := M 1) C hst 1 rfl h_108 dX9_part_108 ?_
    refine lv_imul hx hb dX9_part_109 ?_
    refine lv_iload hx hb dX9_part_110 (lv_at hl 4 rfl) ?_
    obtain ⟨h_112, hf⟩ := og hf
    refine lv_irem hx hb dX9_part_112 h_112 ?_
    refine lv_istore (lv' := [(6, .int ((x2 * (M 1 (Int32.toNatClampNeg (((4 : Int32) * x1) + x3)))) - ((x2 * (M 1 (Int32.toNatClampNeg (((4 : Int32) * x1) + x3)))) / x4) * x4)), (0, .ref (a 0)), (1, .int x1), (2, .int x2), (3, .int x3), (4, .int x4), (5, .int x5)]) hx hb dX9_part_113 hl (by decide) rfl (fun ls hl => ?_)
    refine lv_iconst (v := 0) hx hb dX9_part_115 (by decide) ?_
    refine lv_istore (lv' := [(7, .int (0 : Int32)), (6, .int ((x2 * (M 1 (Int32.toNatClampNeg (((4 : Int32) * x1) + x3)))) - ((x2 * (M 1 (Int32.toNatClampNeg (((4 : Int32) * x1) + x3)))) / x4) * x4)), (0, .ref (a 0)), (1, .int x1), (2, .int x2), (3, .int x3), (4, .int x4), (5, .int x5)]) hx hb dX9_part_116 hl (by decide) rfl (fun ls hl => ?_)
    refine lv_iconst (v := 0) hx hb dX9_part_118 (by decide) ?_
    refine lv_istore (lv' := [(8, .int (0 : Int32)), (7, .int (0 : Int32)), (6, .int ((x2 * (M 1 (Int32.toNatClampNeg (((4 : Int32) * x1) + x3)))) - ((x2 * (M 1 (Int32.toNatClampNeg (((4 : Int32) * x1) + x3)))) / x4) * x4)), (0, .ref (a 0)), (1, .int x1), (2, .int x2), (3, .int x3), (4, .int x4), (5, .int x5)]) hx hb dX9_part_119 hl (by decide) rfl (fun ls hl => ?_)
    exact tX9_part_121 C  fu x1 x2 x3 x4 x5 ((x2 * (M 1 (Int32.toNatClampNeg (((4 : Int32) * x1) + x3)))) - ((x2 * (M 1 (Int32.toNatClampNeg (((4 : Int32) * x1) + x3)))) / x4) * x4) (0 : Int32) (0 : Int32) M _ _ _ hf hst (lv_sub hl [3, 4, 5, 6, 7, 8, 2, 1, 0] rfl)
  · have hf := ifn c_68 hf
    refine lv_iload hx hb dX9_part_71 (lv_at hl 5 rfl) ?_
    refine lv_iload_n hx hb dX9_part_73 rfl (lv_at hl 2 rfl) ?_
    refine lv_aload_n hx hb dX9_part_74 rfl (lv_at hl 0 rfl) ?_
    refine gf_X9_13 C hst dX9_part_75 ?_
    refine lv_iconst (v := 4) hx hb dX9_part_78 (by decide) ?_
    refine lv_iload_n hx hb dX9_part_79 rfl (lv_at hl 1 rfl) ?_
    refine lv_imul hx hb dX9_part_80 ?_
    refine lv_iload hx hb dX9_part_81 (lv_at hl 6 rfl) ?_
    refine lv_iadd hx hb dX9_part_83 ?_
    obtain ⟨h_84, hf⟩ := og hf
    refine w_iald (N := 24) (f := M 1) C hst 1 rfl h_84 dX9_part_84 ?_
    refine lv_imul hx hb dX9_part_85 ?_
    refine lv_iload hx hb dX9_part_86 (lv_at hl 4 rfl) ?_
    obtain ⟨h_88, hf⟩ := og hf
    refine lv_idiv hx hb dX9_part_88 h_88 ?_
    refine lv_isub hx hb dX9_part_89 ?_
    refine lv_istore (lv' := [(5, .int (x5 - ((x2 * (M 1 (Int32.toNatClampNeg (((4 : Int32) * x1) + x6)))) / x4))), (0, .ref (a 0)), (1, .int x1), (2, .int x2), (3, .int x3), (4, .int x4), (6, .int x6)]) hx hb dX9_part_90 hl (by decide) rfl (fun ls hl => ?_)
    refine lv_iinc (v := (x6 + 1)) (lv' := [(6, .int (x6 + 1)), (5, .int (x5 - ((x2 * (M 1 (Int32.toNatClampNeg (((4 : Int32) * x1) + x6)))) / x4))), (0, .ref (a 0)), (1, .int x1), (2, .int x2), (3, .int x3), (4, .int x4)]) hx hb dX9_part_92 hl (k := 6) rfl rfl (by decide) rfl (fun ls hl => ?_)
    refine lv_goto (tgt := 65) hx hb dX9_part_95 (by decide) ?_
    exact hK65 x1 x2 x3 x4 (x5 - ((x2 * (M 1 (Int32.toNatClampNeg (((4 : Int32) * x1) + x6)))) / x4)) (x6 + 1) M _ _ _ hf hst (lv_sub hl [2, 3, 4, 5, 6, 1, 0] rfl)
theorem tX9_part_65 {p : Program} {l : Launch} {e : Env} {s : State} {m : MethodId} {args : Array Value} {below : List Frame} {meth : Method} {c : Code} {D : va_G} {cI cZ : ClassId} {a : Nat → Nat} {A : Nat → Prop} {r : Int32} {M' : Mem} (C : Cx p s m args meth c cX9_part 10 RX9 (some .int) D cI cZ A)  : ∀ (n : Nat) (x1 x2 x3 x4 x5 x6 : Int32) (M : Mem) (H : Heap) (locs : List Loc) (ls : Array Slot), lX9_part_65 n x1 x2 x3 x4 x5 x6 M = some (r, M') → St D (wM cI cZ a) A s.heap H locs M → lv_has ls 10 [(0, .ref (a 0)), (1, .int x1), (2, .int x2), (3, .int x3), (4, .int x4), (5, .int x5), (6, .int x6)] → Wi p l e { frames := 0, cells := 0, slots := 0, locals := 0 } s m args below meth c D (wM cI cZ a) A r M' H locs (F0 m 65 ls []) := by
  intro n
  induction n with
  | zero =>
    intro x1 x2 x3 x4 x5 x6 M H locs ls hf
    exact nomatch (show (none : Res) = some (r, M') from hf)
  | succ n ih =>
    intro x1 x2 x3 x4 x5 x6 M H locs ls hf hst hl
    exact kX9_part_65 C (lX9_part_65 n) ih x1 x2 x3 x4 x5 x6 M H locs ls hf hst hl

set_option maxHeartbeats 4000000 in
set_option maxRecDepth 100000 in
theorem kX9_part_31 {p : Program} {l : Launch} {e : Env} {s : State} {m : MethodId} {args : Array Value} {below : List Frame} {meth : Method} {c : Code} {D : va_G} {cI cZ : ClassId} {a : Nat → Nat} {A : Nat → Prop} {r : Int32} {M' : Mem} (C : Cx p s m args meth c cX9_part 10 RX9 (some .int) D cI cZ A) (K31 : Int32 → Int32 → Int32 → Int32 → Int32 → Mem → Res) (hK31 : ∀ (x1 x2 x3 x4 x5 : Int32) (M : Mem) (H : Heap) (locs : List Loc) (ls : Array Slot), K31 x1 x2 x3 x4 x5 M = some (r, M') → St D (wM cI cZ a) A s.heap H locs M → lv_has ls 10 [(0, .ref (a 0)), (1, .int x1), (2, .int x2), (3, .int x3), (4, .int x4), (5, .int x5)] → Wi p l e { frames := 0, cells := 0, slots := 0, locals := 0 } s m args below meth c D (wM cI cZ a) A r M' H locs (F0 m 31 ls [])) (x1 x2 x3 x4 x5 : Int32) (M : Mem) (H : Heap) (locs : List Loc) (ls : Array Slot) (hf : gX9_part_31 K31 x1 x2 x3 x4 x5 M = some (r, M')) (hst : St D (wM cI cZ a) A s.heap H locs M) (hl : lv_has ls 10 [(0, .ref (a 0)), (1, .int x1), (2, .int x2), (3, .int x3), (4, .int x4), (5, .int x5)]) : Wi p l e { frames := 0, cells := 0, slots := 0, locals := 0 } s m args below meth c D (wM cI cZ a) A r M' H locs (F0 m 31 ls []) := by
  unfold gX9_part_31 at hf
  obtain ⟨hx, hb, hml, hown, hU, hr, hlk, hK, hA⟩ := id C
  refine lv_iload hx hb dX9_part_31 (lv_at hl 5 rfl) ?_
  refine lv_iconst (v := 4) hx hb dX9_part_33 (by decide) ?_
  refine lv_icmp_ge (tgt := 59) hx hb dX9_part_34 (by decide) (fun c_34 => ?_) (fun c_34 => ?_)
  · have hf := ifp c_34 hf
    refine lv_iload_n hx hb dX9_part_59 rfl (lv_at hl 2 rfl) ?_
    refine lv_istore (lv' := [(5, .int x2), (0, .ref (a 0)), (1, .int x1), (2, .int x2), (3, .int x3), (4, .int x4)]) hx hb dX9_part_60 hl (by decide) rfl (fun ls hl => ?_)
    refine lv_iconst (v := 0) hx hb dX9_part_62 (by decide) ?_
    refine lv_istore (lv' := [(6, .int (0 : Int32)), (5, .int x2), (0, .ref (a 0)), (1, .int x1), (2, .int x2), (3, .int x3), (4, .int x4)]) hx hb dX9_part_63 hl (by decide) rfl (fun ls hl => ?_)
    exact tX9_part_65 C  fu x1 x2 x3 x4 x2 (0 : Int32) M _ _ _ hf hst (lv_sub hl [2, 3, 4, 5, 6, 1, 0] rfl)
  · have hf := ifn c_34 hf
    refine lv_iload hx hb dX9_part_37 (lv_at hl 4 rfl) ?_
    refine lv_aload_n hx hb dX9_part_39 rfl (lv_at hl 0 rfl) ?_
    refine gf_X9_13 C hst dX9_part_40 ?_
    refine lv_iconst (v := 4) hx hb dX9_part_43 (by decide) ?_
    refine lv_iload_n hx hb dX9_part_44 rfl (lv_at hl 1 rfl) ?_
    refine lv_imul hx hb dX9_part_45 ?_
    refine lv_iload hx hb dX9_part_46 (lv_at hl 5 rfl) ?_
    refine lv_iadd hx hb dX9_part_48 ?_
    obtain ⟨h_49, hf⟩ := og hf
    refine w_iald (N := 24) (f := M 1) C hst 1 rfl h_49 dX9_part_49 ?_
    refine lv_iadd hx hb dX9_part_50 ?_
    refine lv_istore (lv' := [(4, .int (x4 + (M 1 (Int32.toNatClampNeg (((4 : Int32) * x1) + x5))))), (0, .ref (a 0)), (1, .int x1), (2, .int x2), (3, .int x3), (5, .int x5)]) hx hb dX9_part_51 hl (by decide) rfl (fun ls hl => ?_)
    refine lv_iinc (v := (x5 + 1)) (lv' := [(5, .int (x5 + 1)), (4, .int (x4 + (M 1 (Int32.toNatClampNeg (((4 : Int32) * x1) + x5))))), (0, .ref (a 0)), (1, .int x1), (2, .int x2), (3, .int x3)]) hx hb dX9_part_53 hl (k := 5) rfl rfl (by decide) rfl (fun ls hl => ?_)
    refine lv_goto (tgt := 31) hx hb dX9_part_56 (by decide) ?_
    exact hK31 x1 x2 x3 (x4 + (M 1 (Int32.toNatClampNeg (((4 : Int32) * x1) + x5)))) (x5 + 1) M _ _ _ hf hst (lv_sub hl [2, 3, 4, 5, 1, 0] rfl)
theorem tX9_part_31 {p : Program} {l : Launch} {e : Env} {s : State} {m : MethodId} {args : Array Value} {below : List Frame} {meth : Method} {c : Code} {D : va_G} {cI cZ : ClassId} {a : Nat → Nat} {A : Nat → Prop} {r : Int32} {M' : Mem} (C : Cx p s m args meth c cX9_part 10 RX9 (some .int) D cI cZ A)  : ∀ (n : Nat) (x1 x2 x3 x4 x5 : Int32) (M : Mem) (H : Heap) (locs : List Loc) (ls : Array Slot), lX9_part_31 n x1 x2 x3 x4 x5 M = some (r, M') → St D (wM cI cZ a) A s.heap H locs M → lv_has ls 10 [(0, .ref (a 0)), (1, .int x1), (2, .int x2), (3, .int x3), (4, .int x4), (5, .int x5)] → Wi p l e { frames := 0, cells := 0, slots := 0, locals := 0 } s m args below meth c D (wM cI cZ a) A r M' H locs (F0 m 31 ls []) := by
  intro n
  induction n with
  | zero =>
    intro x1 x2 x3 x4 x5 M H locs ls hf
    exact nomatch (show (none : Res) = some (r, M') from hf)
  | succ n ih =>
    intro x1 x2 x3 x4 x5 M H locs ls hf hst hl
    exact kX9_part_31 C (lX9_part_31 n) ih x1 x2 x3 x4 x5 M H locs ls hf hst hl

set_option maxHeartbeats 4000000 in
set_option maxRecDepth 100000 in
theorem kX9_part_0 {p : Program} {l : Launch} {e : Env} {s : State} {m : MethodId} {args : Array Value} {below : List Frame} {meth : Method} {c : Code} {D : va_G} {cI cZ : ClassId} {a : Nat → Nat} {A : Nat → Prop} {r : Int32} {M' : Mem} (C : Cx p s m args meth c cX9_part 10 RX9 (some .int) D cI cZ A)  (x1 x2 x3 : Int32) (M : Mem) (H : Heap) (locs : List Loc) (ls : Array Slot) (hf : fX9_part x1 x2 x3 M = some (r, M')) (hst : St D (wM cI cZ a) A s.heap H locs M) (hl : lv_has ls 10 [(0, .ref (a 0)), (1, .int x1), (2, .int x2), (3, .int x3)]) : Wi p l e { frames := 0, cells := 0, slots := 0, locals := 0 } s m args below meth c D (wM cI cZ a) A r M' H locs (F0 m 0 ls []) := by
  unfold fX9_part at hf
  obtain ⟨hx, hb, hml, hown, hU, hr, hlk, hK, hA⟩ := id C
  refine lv_aload_n hx hb dX9_part_0 rfl (lv_at hl 0 rfl) ?_
  refine gf_X9_20 C hst dX9_part_1 ?_
  refine lv_iload_n hx hb dX9_part_4 rfl (lv_at hl 1 rfl) ?_
  obtain ⟨h_5, hf⟩ := og hf
  refine w_zald (N := 6) (f := M 3) C hst 3 rfl h_5 dX9_part_5 ?_
  refine lv_if_ne (tgt := 25) hx hb dX9_part_6 (by decide) (fun c_6 => ?_) (fun c_6 => ?_)
  · have hf := ifn c_6 hf
    refine lv_iconst (v := 0) hx hb dX9_part_25 (by decide) ?_
    refine lv_istore (lv' := [(4, .int (0 : Int32)), (0, .ref (a 0)), (1, .int x1), (2, .int x2), (3, .int x3)]) hx hb dX9_part_26 hl (by decide) rfl (fun ls hl => ?_)
    refine lv_iconst (v := 0) hx hb dX9_part_28 (by decide) ?_
    refine lv_istore (lv' := [(5, .int (0 : Int32)), (4, .int (0 : Int32)), (0, .ref (a 0)), (1, .int x1), (2, .int x2), (3, .int x3)]) hx hb dX9_part_29 hl (by decide) rfl (fun ls hl => ?_)
    exact tX9_part_31 C  fu x1 x2 x3 (0 : Int32) (0 : Int32) M _ _ _ hf hst (lv_sub hl [2, 3, 4, 5, 1, 0] rfl)
  · have hf := ifp c_6 hf
    refine lv_aload_n hx hb dX9_part_9 rfl (lv_at hl 0 rfl) ?_
    refine gf_X9_24 C hst dX9_part_10 ?_
    refine lv_iload_n hx hb dX9_part_13 rfl (lv_at hl 1 rfl) ?_
    refine w_iald (N := 6) (f := M 4) C hst 4 rfl h_5 dX9_part_14 ?_
    refine lv_iload_n hx hb dX9_part_15 rfl (lv_at hl 3 rfl) ?_
    refine lv_icmp_ne (tgt := 23) hx hb dX9_part_16 (by decide) (fun c_16 => ?_) (fun c_16 => ?_)
    · have hf := ifn c_16 hf
      refine lv_iconst (v := 0) hx hb dX9_part_23 (by decide) ?_
      obtain ⟨e1, e2⟩ := sinj hf
      subst e1
      subst e2
      exact w_iret C hst dX9_part_24
    · have hf := ifp c_16 hf
      refine lv_iload_n hx hb dX9_part_19 rfl (lv_at hl 2 rfl) ?_
      refine lv_goto (tgt := 24) hx hb dX9_part_20 (by decide) ?_
      obtain ⟨e1, e2⟩ := sinj hf
      subst e1
      subst e2
      exact w_iret C hst dX9_part_24
set_option maxRecDepth 100000 in
theorem mX9_part (l : Launch) (D : va_G) (cI cZ : ClassId) (a : Nat → Nat) (x1 x2 x3 : Int32) (M : Mem) (r : Int32) (M' : Mem) (hf : fX9_part x1 x2 x3 M = some (r, M')) : MI l D cI cZ (wM cI cZ a) yX9_part cX9_part 10 (some .int) 0 0 [.ref (a 0), .int x1, .int x2, .int x3] M r M' :=
  MI.of (by decide) (Nat.le_of_ble_eq_true rfl) (fun p e s m args below meth c A C hst ls hl => kX9_part_0 C x1 x2 x3 M s.heap [] ls hf hst hl)

def gX9_laidIn_5 (K5 : Int32 → Int32 → Int32 → Int32 → Mem → Res) (x1 x2 x3 x4 : Int32) (M : Mem) : Res :=
  (if (6 : Int32) ≤ x4 then some (x3, M) else obi (fX9_costOf x4 x2 M) (fun r_20 M_20 => obi (fX9_part x4 r_20 x1 M_20) (fun r_24 M_24 => K5 x1 x2 (x3 + r_24) (x4 + 1) M_24)))
def lX9_laidIn_5 : Nat → Int32 → Int32 → Int32 → Int32 → Mem → Res
  | 0, _, _, _, _, _ => none
  | n + 1, x1, x2, x3, x4, M => gX9_laidIn_5 (lX9_laidIn_5 n) x1 x2 x3 x4 M
def fX9_laidIn (x1 x2 : Int32) (M : Mem) : Res :=
  lX9_laidIn_5  fu x1 x2 (0 : Int32) (0 : Int32) M
theorem calX9_laidIn : Cal yX9_laidIn cX9_laidIn 5 (some .int) 2 := ⟨(mU4 7 rfl rfl), (mU1 10 rfl rfl), by decide +kernel⟩
theorem cavX9_laidIn : CalV yX9_laidIn := ⟨(mU4 6 rfl rfl), (mS2 7 rfl)⟩
set_option maxHeartbeats 4000000 in
set_option maxRecDepth 100000 in
theorem kX9_laidIn_5 {p : Program} {l : Launch} {e : Env} {s : State} {m : MethodId} {args : Array Value} {below : List Frame} {meth : Method} {c : Code} {D : va_G} {cI cZ : ClassId} {a : Nat → Nat} {A : Nat → Prop} {r : Int32} {M' : Mem} (C : Cx p s m args meth c cX9_laidIn 5 RX9 (some .int) D cI cZ A) (K5 : Int32 → Int32 → Int32 → Int32 → Mem → Res) (hK5 : ∀ (x1 x2 x3 x4 : Int32) (M : Mem) (H : Heap) (locs : List Loc) (ls : Array Slot), K5 x1 x2 x3 x4 M = some (r, M') → St D (wM cI cZ a) A s.heap H locs M → lv_has ls 5 [(0, .ref (a 0)), (1, .int x1), (2, .int x2), (3, .int x3), (4, .int x4)] → Wi p l e { frames := 2, cells := 0, slots := 0, locals := 46 } s m args below meth c D (wM cI cZ a) A r M' H locs (F0 m 5 ls [])) (x1 x2 x3 x4 : Int32) (M : Mem) (H : Heap) (locs : List Loc) (ls : Array Slot) (hf : gX9_laidIn_5 K5 x1 x2 x3 x4 M = some (r, M')) (hst : St D (wM cI cZ a) A s.heap H locs M) (hl : lv_has ls 5 [(0, .ref (a 0)), (1, .int x1), (2, .int x2), (3, .int x3), (4, .int x4)]) : Wi p l e { frames := 2, cells := 0, slots := 0, locals := 46 } s m args below meth c D (wM cI cZ a) A r M' H locs (F0 m 5 ls []) := by
  unfold gX9_laidIn_5 at hf
  obtain ⟨hx, hb, hml, hown, hU, hr, hlk, hK, hA⟩ := id C
  refine lv_iload hx hb dX9_laidIn_5 (lv_at hl 4 rfl) ?_
  refine lv_bipush (v := 6) hx hb dX9_laidIn_7 (by decide) ?_
  refine lv_icmp_ge (tgt := 35) hx hb dX9_laidIn_9 (by decide) (fun c_9 => ?_) (fun c_9 => ?_)
  · have hf := ifp c_9 hf
    refine lv_iload_n hx hb dX9_laidIn_35 rfl (lv_at hl 3 rfl) ?_
    obtain ⟨e1, e2⟩ := sinj hf
    subst e1
    subst e2
    exact w_iret C hst dX9_laidIn_36
  · have hf := ifn c_9 hf
    refine lv_iload_n hx hb dX9_laidIn_12 rfl (lv_at hl 3 rfl) ?_
    refine lv_aload_n hx hb dX9_laidIn_13 rfl (lv_at hl 0 rfl) ?_
    refine lv_iload hx hb dX9_laidIn_14 (lv_at hl 4 rfl) ?_
    refine lv_aload_n hx hb dX9_laidIn_16 rfl (lv_at hl 0 rfl) ?_
    refine lv_iload hx hb dX9_laidIn_17 (lv_at hl 4 rfl) ?_
    refine lv_iload_n hx hb dX9_laidIn_19 rfl (lv_at hl 2 rfl) ?_
    obtain ⟨r_20, M_20, hc_20, hf⟩ := obi_some hf
    refine w_cVi (As := [.int x4, .int x2]) (rest := [.int x4, .ref (a 0), .int x3]) C (wM_ad cI cZ a) (mX9_costOf l D cI cZ a x4 x2 M r_20 M_20 hc_20) calX9_costOf cavX9_costOf (mU3 174 rfl rfl) hst hl.1 0 9 rfl rfl rfl rfl (Nat.le_of_ble_eq_true rfl) ⟨Nat.le_of_ble_eq_true rfl, Nat.le_of_ble_eq_true rfl⟩ dX9_laidIn_20 (fun H locs hst => ?_)
    refine lv_iload_n hx hb dX9_laidIn_23 rfl (lv_at hl 1 rfl) ?_
    obtain ⟨r_24, M_24, hc_24, hf⟩ := obi_some hf
    refine w_cVi (As := [.int x4, .int r_20, .int x1]) (rest := [.int x3]) C (wM_ad cI cZ a) (mX9_part l D cI cZ a x4 r_20 x1 M_20 r_24 M_24 hc_24) calX9_part cavX9_part (mU4 8 rfl rfl) hst hl.1 0 9 rfl rfl rfl rfl (Nat.le_of_ble_eq_true rfl) ⟨Nat.le_of_ble_eq_true rfl, Nat.le_of_ble_eq_true rfl⟩ dX9_laidIn_24 (fun H locs hst => ?_)
    refine lv_iadd hx hb dX9_laidIn_27 ?_
    refine lv_istore_n (lv' := [(3, .int (x3 + r_24)), (0, .ref (a 0)), (1, .int x1), (2, .int x2), (4, .int x4)]) hx hb dX9_laidIn_28 rfl hl (by decide) rfl (fun ls hl => ?_)
    refine lv_iinc (v := (x4 + 1)) (lv' := [(4, .int (x4 + 1)), (3, .int (x3 + r_24)), (0, .ref (a 0)), (1, .int x1), (2, .int x2)]) hx hb dX9_laidIn_29 hl (k := 4) rfl rfl (by decide) rfl (fun ls hl => ?_)
    refine lv_goto (tgt := 5) hx hb dX9_laidIn_32 (by decide) ?_
    exact hK5 x1 x2 (x3 + r_24) (x4 + 1) M_24 _ _ _ hf hst (lv_sub hl [2, 3, 4, 1, 0] rfl)
theorem tX9_laidIn_5 {p : Program} {l : Launch} {e : Env} {s : State} {m : MethodId} {args : Array Value} {below : List Frame} {meth : Method} {c : Code} {D : va_G} {cI cZ : ClassId} {a : Nat → Nat} {A : Nat → Prop} {r : Int32} {M' : Mem} (C : Cx p s m args meth c cX9_laidIn 5 RX9 (some .int) D cI cZ A)  : ∀ (n : Nat) (x1 x2 x3 x4 : Int32) (M : Mem) (H : Heap) (locs : List Loc) (ls : Array Slot), lX9_laidIn_5 n x1 x2 x3 x4 M = some (r, M') → St D (wM cI cZ a) A s.heap H locs M → lv_has ls 5 [(0, .ref (a 0)), (1, .int x1), (2, .int x2), (3, .int x3), (4, .int x4)] → Wi p l e { frames := 2, cells := 0, slots := 0, locals := 46 } s m args below meth c D (wM cI cZ a) A r M' H locs (F0 m 5 ls []) := by
  intro n
  induction n with
  | zero =>
    intro x1 x2 x3 x4 M H locs ls hf
    exact nomatch (show (none : Res) = some (r, M') from hf)
  | succ n ih =>
    intro x1 x2 x3 x4 M H locs ls hf hst hl
    exact kX9_laidIn_5 C (lX9_laidIn_5 n) ih x1 x2 x3 x4 M H locs ls hf hst hl

set_option maxHeartbeats 4000000 in
set_option maxRecDepth 100000 in
theorem kX9_laidIn_0 {p : Program} {l : Launch} {e : Env} {s : State} {m : MethodId} {args : Array Value} {below : List Frame} {meth : Method} {c : Code} {D : va_G} {cI cZ : ClassId} {a : Nat → Nat} {A : Nat → Prop} {r : Int32} {M' : Mem} (C : Cx p s m args meth c cX9_laidIn 5 RX9 (some .int) D cI cZ A)  (x1 x2 : Int32) (M : Mem) (H : Heap) (locs : List Loc) (ls : Array Slot) (hf : fX9_laidIn x1 x2 M = some (r, M')) (hst : St D (wM cI cZ a) A s.heap H locs M) (hl : lv_has ls 5 [(0, .ref (a 0)), (1, .int x1), (2, .int x2)]) : Wi p l e { frames := 2, cells := 0, slots := 0, locals := 46 } s m args below meth c D (wM cI cZ a) A r M' H locs (F0 m 0 ls []) := by
  unfold fX9_laidIn at hf
  obtain ⟨hx, hb, hml, hown, hU, hr, hlk, hK, hA⟩ := id C
  refine lv_iconst (v := 0) hx hb dX9_laidIn_0 (by decide) ?_
  refine lv_istore_n (lv' := [(3, .int (0 : Int32)), (0, .ref (a 0)), (1, .int x1), (2, .int x2)]) hx hb dX9_laidIn_1 rfl hl (by decide) rfl (fun ls hl => ?_)
  refine lv_iconst (v := 0) hx hb dX9_laidIn_2 (by decide) ?_
  refine lv_istore (lv' := [(4, .int (0 : Int32)), (3, .int (0 : Int32)), (0, .ref (a 0)), (1, .int x1), (2, .int x2)]) hx hb dX9_laidIn_3 hl (by decide) rfl (fun ls hl => ?_)
  exact tX9_laidIn_5 C  fu x1 x2 (0 : Int32) (0 : Int32) M _ _ _ hf hst (lv_sub hl [2, 3, 4, 1, 0] rfl)
set_option maxRecDepth 100000 in
theorem mX9_laidIn (l : Launch) (D : va_G) (cI cZ : ClassId) (a : Nat → Nat) (x1 x2 : Int32) (M : Mem) (r : Int32) (M' : Mem) (hf : fX9_laidIn x1 x2 M = some (r, M')) : MI l D cI cZ (wM cI cZ a) yX9_laidIn cX9_laidIn 5 (some .int) 2 46 [.ref (a 0), .int x1, .int x2] M r M' :=
  MI.of (by decide) (Nat.le_of_ble_eq_true rfl) (fun p e s m args below meth c A C hst ls hl => kX9_laidIn_0 C x1 x2 M s.heap [] ls hf hst hl)

def gX9_laidOf_6 (K6 : Int32 → Int32 → Int32 → Int32 → Int32 → Mem → Res) (x1 x2 x3 x4 x5 : Int32) (M : Mem) : Res :=
  (if x3 ≤ x5 then some (x4, M) else obi (fX9_laidIn x1 x5 M) (fun r_18 M_18 => K6 x1 x2 x3 (x4 + r_18) (x5 + 1) M_18))
def lX9_laidOf_6 : Nat → Int32 → Int32 → Int32 → Int32 → Int32 → Mem → Res
  | 0, _, _, _, _, _, _ => none
  | n + 1, x1, x2, x3, x4, x5, M => gX9_laidOf_6 (lX9_laidOf_6 n) x1 x2 x3 x4 x5 M
def fX9_laidOf (x1 x2 x3 : Int32) (M : Mem) : Res :=
  lX9_laidOf_6  fu x1 x2 x3 (0 : Int32) x2 M
theorem calX9_laidOf : Cal yX9_laidOf cX9_laidOf 6 (some .int) 3 := ⟨(mU4 3 rfl rfl), (mU1 10 rfl rfl), by decide +kernel⟩
theorem cavX9_laidOf : CalV yX9_laidOf := ⟨(mU4 2 rfl rfl), (mS2 6 rfl)⟩
set_option maxHeartbeats 4000000 in
set_option maxRecDepth 100000 in
theorem kX9_laidOf_6 {p : Program} {l : Launch} {e : Env} {s : State} {m : MethodId} {args : Array Value} {below : List Frame} {meth : Method} {c : Code} {D : va_G} {cI cZ : ClassId} {a : Nat → Nat} {A : Nat → Prop} {r : Int32} {M' : Mem} (C : Cx p s m args meth c cX9_laidOf 6 RX9 (some .int) D cI cZ A) (K6 : Int32 → Int32 → Int32 → Int32 → Int32 → Mem → Res) (hK6 : ∀ (x1 x2 x3 x4 x5 : Int32) (M : Mem) (H : Heap) (locs : List Loc) (ls : Array Slot), K6 x1 x2 x3 x4 x5 M = some (r, M') → St D (wM cI cZ a) A s.heap H locs M → lv_has ls 6 [(0, .ref (a 0)), (1, .int x1), (2, .int x2), (3, .int x3), (4, .int x4), (5, .int x5)] → Wi p l e { frames := 3, cells := 0, slots := 0, locals := 70 } s m args below meth c D (wM cI cZ a) A r M' H locs (F0 m 6 ls [])) (x1 x2 x3 x4 x5 : Int32) (M : Mem) (H : Heap) (locs : List Loc) (ls : Array Slot) (hf : gX9_laidOf_6 K6 x1 x2 x3 x4 x5 M = some (r, M')) (hst : St D (wM cI cZ a) A s.heap H locs M) (hl : lv_has ls 6 [(0, .ref (a 0)), (1, .int x1), (2, .int x2), (3, .int x3), (4, .int x4), (5, .int x5)]) : Wi p l e { frames := 3, cells := 0, slots := 0, locals := 70 } s m args below meth c D (wM cI cZ a) A r M' H locs (F0 m 6 ls []) := by
  unfold gX9_laidOf_6 at hf
  obtain ⟨hx, hb, hml, hown, hU, hr, hlk, hK, hA⟩ := id C
  refine lv_iload hx hb dX9_laidOf_6 (lv_at hl 5 rfl) ?_
  refine lv_iload_n hx hb dX9_laidOf_8 rfl (lv_at hl 3 rfl) ?_
  refine lv_icmp_ge (tgt := 30) hx hb dX9_laidOf_9 (by decide) (fun c_9 => ?_) (fun c_9 => ?_)
  · have hf := ifp c_9 hf
    refine lv_iload hx hb dX9_laidOf_30 (lv_at hl 4 rfl) ?_
    obtain ⟨e1, e2⟩ := sinj hf
    subst e1
    subst e2
    exact w_iret C hst dX9_laidOf_32
  · have hf := ifn c_9 hf
    refine lv_iload hx hb dX9_laidOf_12 (lv_at hl 4 rfl) ?_
    refine lv_aload_n hx hb dX9_laidOf_14 rfl (lv_at hl 0 rfl) ?_
    refine lv_iload_n hx hb dX9_laidOf_15 rfl (lv_at hl 1 rfl) ?_
    refine lv_iload hx hb dX9_laidOf_16 (lv_at hl 5 rfl) ?_
    obtain ⟨r_18, M_18, hc_18, hf⟩ := obi_some hf
    refine w_cVi (As := [.int x1, .int x5]) (rest := [.int x4]) C (wM_ad cI cZ a) (mX9_laidIn l D cI cZ a x1 x5 M r_18 M_18 hc_18) calX9_laidIn cavX9_laidIn (mU4 4 rfl rfl) hst hl.1 0 9 rfl rfl rfl rfl (Nat.le_of_ble_eq_true rfl) ⟨Nat.le_of_ble_eq_true rfl, Nat.le_of_ble_eq_true rfl⟩ dX9_laidOf_18 (fun H locs hst => ?_)
    refine lv_iadd hx hb dX9_laidOf_21 ?_
    refine lv_istore (lv' := [(4, .int (x4 + r_18)), (0, .ref (a 0)), (1, .int x1), (2, .int x2), (3, .int x3), (5, .int x5)]) hx hb dX9_laidOf_22 hl (by decide) rfl (fun ls hl => ?_)
    refine lv_iinc (v := (x5 + 1)) (lv' := [(5, .int (x5 + 1)), (4, .int (x4 + r_18)), (0, .ref (a 0)), (1, .int x1), (2, .int x2), (3, .int x3)]) hx hb dX9_laidOf_24 hl (k := 5) rfl rfl (by decide) rfl (fun ls hl => ?_)
    refine lv_goto (tgt := 6) hx hb dX9_laidOf_27 (by decide) ?_
    exact hK6 x1 x2 x3 (x4 + r_18) (x5 + 1) M_18 _ _ _ hf hst (lv_sub hl [2, 3, 4, 5, 1, 0] rfl)
theorem tX9_laidOf_6 {p : Program} {l : Launch} {e : Env} {s : State} {m : MethodId} {args : Array Value} {below : List Frame} {meth : Method} {c : Code} {D : va_G} {cI cZ : ClassId} {a : Nat → Nat} {A : Nat → Prop} {r : Int32} {M' : Mem} (C : Cx p s m args meth c cX9_laidOf 6 RX9 (some .int) D cI cZ A)  : ∀ (n : Nat) (x1 x2 x3 x4 x5 : Int32) (M : Mem) (H : Heap) (locs : List Loc) (ls : Array Slot), lX9_laidOf_6 n x1 x2 x3 x4 x5 M = some (r, M') → St D (wM cI cZ a) A s.heap H locs M → lv_has ls 6 [(0, .ref (a 0)), (1, .int x1), (2, .int x2), (3, .int x3), (4, .int x4), (5, .int x5)] → Wi p l e { frames := 3, cells := 0, slots := 0, locals := 70 } s m args below meth c D (wM cI cZ a) A r M' H locs (F0 m 6 ls []) := by
  intro n
  induction n with
  | zero =>
    intro x1 x2 x3 x4 x5 M H locs ls hf
    exact nomatch (show (none : Res) = some (r, M') from hf)
  | succ n ih =>
    intro x1 x2 x3 x4 x5 M H locs ls hf hst hl
    exact kX9_laidOf_6 C (lX9_laidOf_6 n) ih x1 x2 x3 x4 x5 M H locs ls hf hst hl

set_option maxHeartbeats 4000000 in
set_option maxRecDepth 100000 in
theorem kX9_laidOf_0 {p : Program} {l : Launch} {e : Env} {s : State} {m : MethodId} {args : Array Value} {below : List Frame} {meth : Method} {c : Code} {D : va_G} {cI cZ : ClassId} {a : Nat → Nat} {A : Nat → Prop} {r : Int32} {M' : Mem} (C : Cx p s m args meth c cX9_laidOf 6 RX9 (some .int) D cI cZ A)  (x1 x2 x3 : Int32) (M : Mem) (H : Heap) (locs : List Loc) (ls : Array Slot) (hf : fX9_laidOf x1 x2 x3 M = some (r, M')) (hst : St D (wM cI cZ a) A s.heap H locs M) (hl : lv_has ls 6 [(0, .ref (a 0)), (1, .int x1), (2, .int x2), (3, .int x3)]) : Wi p l e { frames := 3, cells := 0, slots := 0, locals := 70 } s m args below meth c D (wM cI cZ a) A r M' H locs (F0 m 0 ls []) := by
  unfold fX9_laidOf at hf
  obtain ⟨hx, hb, hml, hown, hU, hr, hlk, hK, hA⟩ := id C
  refine lv_iconst (v := 0) hx hb dX9_laidOf_0 (by decide) ?_
  refine lv_istore (lv' := [(4, .int (0 : Int32)), (0, .ref (a 0)), (1, .int x1), (2, .int x2), (3, .int x3)]) hx hb dX9_laidOf_1 hl (by decide) rfl (fun ls hl => ?_)
  refine lv_iload_n hx hb dX9_laidOf_3 rfl (lv_at hl 3 rfl) ?_
  refine lv_istore (lv' := [(5, .int x2), (4, .int (0 : Int32)), (0, .ref (a 0)), (1, .int x1), (2, .int x2), (3, .int x3)]) hx hb dX9_laidOf_4 hl (by decide) rfl (fun ls hl => ?_)
  exact tX9_laidOf_6 C  fu x1 x2 x3 (0 : Int32) x2 M _ _ _ hf hst (lv_sub hl [2, 3, 4, 5, 1, 0] rfl)
set_option maxRecDepth 100000 in
theorem mX9_laidOf (l : Launch) (D : va_G) (cI cZ : ClassId) (a : Nat → Nat) (x1 x2 x3 : Int32) (M : Mem) (r : Int32) (M' : Mem) (hf : fX9_laidOf x1 x2 x3 M = some (r, M')) : MI l D cI cZ (wM cI cZ a) yX9_laidOf cX9_laidOf 6 (some .int) 3 70 [.ref (a 0), .int x1, .int x2, .int x3] M r M' :=
  MI.of (by decide) (Nat.le_of_ble_eq_true rfl) (fun p e s m args below meth c A C hst ls hl => kX9_laidOf_0 C x1 x2 x3 M s.heap [] ls hf hst hl)

def gX9_laid_26 (x1 x2 x3 : Int32) (M : Mem) : Res :=
  some ((-1 : Int32), M)
def fX9_laid (x1 x2 x3 : Int32) (M : Mem) : Res :=
  obi (fX9_isOwner x1 M) (fun r_1 M_1 => (if r_1 = 0 then gX9_laid_26  x1 x2 x3 M_1 else (if x2 < 0 then gX9_laid_26  x1 x2 x3 M_1 else (if x3 < x2 then gX9_laid_26  x1 x2 x3 M_1 else (if x3 ≤ ((M_1 0 0) + (1 : Int32)) then obi (fX9_laidOf x1 x2 x3 M_1) (fun r_34 M_34 => some (r_34, M_34)) else gX9_laid_26  x1 x2 x3 M_1)))))
theorem calX9_laid : Cal yX9_laid cX9_laid 4 (some .int) 3 := ⟨(mU3 239 rfl rfl), (mU1 10 rfl rfl), by decide +kernel⟩
theorem cavX9_laid : CalV yX9_laid := ⟨(mU3 237 rfl rfl), (mU3 238 rfl rfl)⟩
set_option maxHeartbeats 4000000 in
set_option maxRecDepth 100000 in
theorem kX9_laid_26 {p : Program} {l : Launch} {e : Env} {s : State} {m : MethodId} {args : Array Value} {below : List Frame} {meth : Method} {c : Code} {D : va_G} {cI cZ : ClassId} {a : Nat → Nat} {A : Nat → Prop} {r : Int32} {M' : Mem} (C : Cx p s m args meth c cX9_laid 4 RX9 (some .int) D cI cZ A)  (x1 x2 x3 : Int32) (M : Mem) (H : Heap) (locs : List Loc) (ls : Array Slot) (hf : gX9_laid_26 x1 x2 x3 M = some (r, M')) (hst : St D (wM cI cZ a) A s.heap H locs M) (hl : lv_has ls 4 [(0, .ref (a 0)), (1, .int x1), (2, .int x2), (3, .int x3)]) : Wi p l e { frames := 4, cells := 0, slots := 0, locals := 95 } s m args below meth c D (wM cI cZ a) A r M' H locs (F0 m 26 ls []) := by
  unfold gX9_laid_26 at hf
  obtain ⟨hx, hb, hml, hown, hU, hr, hlk, hK, hA⟩ := id C
  refine lv_iconst (v := -1) hx hb dX9_laid_26 (by decide) ?_
  refine lv_goto (tgt := 37) hx hb dX9_laid_27 (by decide) ?_
  obtain ⟨e1, e2⟩ := sinj hf
  subst e1
  subst e2
  exact w_iret C hst dX9_laid_37
set_option maxHeartbeats 4000000 in
set_option maxRecDepth 100000 in
theorem kX9_laid_0 {p : Program} {l : Launch} {e : Env} {s : State} {m : MethodId} {args : Array Value} {below : List Frame} {meth : Method} {c : Code} {D : va_G} {cI cZ : ClassId} {a : Nat → Nat} {A : Nat → Prop} {r : Int32} {M' : Mem} (C : Cx p s m args meth c cX9_laid 4 RX9 (some .int) D cI cZ A)  (x1 x2 x3 : Int32) (M : Mem) (H : Heap) (locs : List Loc) (ls : Array Slot) (hf : fX9_laid x1 x2 x3 M = some (r, M')) (hst : St D (wM cI cZ a) A s.heap H locs M) (hl : lv_has ls 4 [(0, .ref (a 0)), (1, .int x1), (2, .int x2), (3, .int x3)]) : Wi p l e { frames := 4, cells := 0, slots := 0, locals := 95 } s m args below meth c D (wM cI cZ a) A r M' H locs (F0 m 0 ls []) := by
  unfold fX9_laid at hf
  obtain ⟨hx, hb, hml, hown, hU, hr, hlk, hK, hA⟩ := id C
  refine lv_iload_n hx hb dX9_laid_0 rfl (lv_at hl 1 rfl) ?_
  obtain ⟨r_1, M_1, hc_1, hf⟩ := obi_some hf
  refine w_cSi (As := [.int x1]) (rest := []) C (wM_ad cI cZ a) (mX9_isOwner l D cI cZ a x1 M r_1 M_1 hc_1) calX9_isOwner casX9_isOwner (mU3 138 rfl rfl) hst hl.1 rfl rfl (Nat.le_of_ble_eq_true rfl) ⟨Nat.le_of_ble_eq_true rfl, Nat.le_of_ble_eq_true rfl⟩ dX9_laid_1 (fun H locs hst => ?_)
  refine lv_if_eq (tgt := 26) hx hb dX9_laid_4 (by decide) (fun c_4 => ?_) (fun c_4 => ?_)
  · have hf := ifp c_4 hf
    exact kX9_laid_26 C  x1 x2 x3 M_1 _ _ _ hf hst (lv_sub hl [0, 1, 2, 3] rfl)
  · have hf := ifn c_4 hf
    refine lv_iload_n hx hb dX9_laid_7 rfl (lv_at hl 2 rfl) ?_
    refine lv_if_lt (tgt := 26) hx hb dX9_laid_8 (by decide) (fun c_8 => ?_) (fun c_8 => ?_)
    · have hf := ifp c_8 hf
      exact kX9_laid_26 C  x1 x2 x3 M_1 _ _ _ hf hst (lv_sub hl [0, 1, 2, 3] rfl)
    · have hf := ifn c_8 hf
      refine lv_iload_n hx hb dX9_laid_11 rfl (lv_at hl 2 rfl) ?_
      refine lv_iload_n hx hb dX9_laid_12 rfl (lv_at hl 3 rfl) ?_
      refine lv_icmp_gt (tgt := 26) hx hb dX9_laid_13 (by decide) (fun c_13 => ?_) (fun c_13 => ?_)
      · have hf := ifp c_13 hf
        exact kX9_laid_26 C  x1 x2 x3 M_1 _ _ _ hf hst (lv_sub hl [0, 1, 2, 3] rfl)
      · have hf := ifn c_13 hf
        refine lv_iload_n hx hb dX9_laid_16 rfl (lv_at hl 3 rfl) ?_
        refine lv_aload_n hx hb dX9_laid_17 rfl (lv_at hl 0 rfl) ?_
        refine gf_X9_83 C hst dX9_laid_18 ?_
        refine lv_iconst (v := 1) hx hb dX9_laid_21 (by decide) ?_
        refine lv_iadd hx hb dX9_laid_22 ?_
        refine lv_icmp_le (tgt := 30) hx hb dX9_laid_23 (by decide) (fun c_23 => ?_) (fun c_23 => ?_)
        · have hf := ifp c_23 hf
          refine lv_aload_n hx hb dX9_laid_30 rfl (lv_at hl 0 rfl) ?_
          refine lv_iload_n hx hb dX9_laid_31 rfl (lv_at hl 1 rfl) ?_
          refine lv_iload_n hx hb dX9_laid_32 rfl (lv_at hl 2 rfl) ?_
          refine lv_iload_n hx hb dX9_laid_33 rfl (lv_at hl 3 rfl) ?_
          obtain ⟨r_34, M_34, hc_34, hf⟩ := obi_some hf
          refine w_cVi (As := [.int x1, .int x2, .int x3]) (rest := []) C (wM_ad cI cZ a) (mX9_laidOf l D cI cZ a x1 x2 x3 M_1 r_34 M_34 hc_34) calX9_laidOf cavX9_laidOf (mU4 0 rfl rfl) hst hl.1 0 9 rfl rfl rfl rfl (Nat.le_of_ble_eq_true rfl) ⟨Nat.le_of_ble_eq_true rfl, Nat.le_of_ble_eq_true rfl⟩ dX9_laid_34 (fun H locs hst => ?_)
          obtain ⟨e1, e2⟩ := sinj hf
          subst e1
          subst e2
          exact w_iret C hst dX9_laid_37
        · have hf := ifn c_23 hf
          exact kX9_laid_26 C  x1 x2 x3 M_1 _ _ _ hf hst (lv_sub hl [0, 1, 2, 3] rfl)
set_option maxRecDepth 100000 in
theorem mX9_laid (l : Launch) (D : va_G) (cI cZ : ClassId) (a : Nat → Nat) (x1 x2 x3 : Int32) (M : Mem) (r : Int32) (M' : Mem) (hf : fX9_laid x1 x2 x3 M = some (r, M')) : MI l D cI cZ (wM cI cZ a) yX9_laid cX9_laid 4 (some .int) 4 95 [.ref (a 0), .int x1, .int x2, .int x3] M r M' :=
  MI.of (by decide) (Nat.le_of_ble_eq_true rfl) (fun p e s m args below meth c A C hst ls hl => kX9_laid_0 C x1 x2 x3 M s.heap [] ls hf hst hl)

def fX9_budget (x1 x2 x3 x4 : Int32) (M : Mem) : Res :=
  obi (fX9_isOwner x1 M) (fun r_1 M_1 => (if r_1 = 0 then some ((0 : Int32), M_1) else obi (fX9_isIn x2 (0 : Int32) (100000000 : Int32) M_1) (fun r_11 M_11 => (if r_11 = 0 then some ((0 : Int32), M_11) else (if x3 < 0 then some ((0 : Int32), M_11) else (if x4 ≤ x3 then some ((0 : Int32), M_11) else (if x4 ≤ (2000 : Int32) then if x1 < 0 ∨ 4 ≤ Int32.toNatClampNeg x1 then none else some ((1 : Int32), (upM (upM (upM M_11 16 (Int32.toNatClampNeg x1) x2) 17 (Int32.toNatClampNeg x1) x3) 18 (Int32.toNatClampNeg x1) x4)) else some ((0 : Int32), M_11))))))))
theorem calX9_budget : Cal yX9_budget cX9_budget 5 (some .boolean) 4 := ⟨(mU4 15 rfl rfl), (mU1 10 rfl rfl), by decide +kernel⟩
theorem cavX9_budget : CalV yX9_budget := ⟨(mU4 13 rfl rfl), (mU4 14 rfl rfl)⟩
set_option maxHeartbeats 4000000 in
set_option maxRecDepth 100000 in
theorem kX9_budget_0 {p : Program} {l : Launch} {e : Env} {s : State} {m : MethodId} {args : Array Value} {below : List Frame} {meth : Method} {c : Code} {D : va_G} {cI cZ : ClassId} {a : Nat → Nat} {A : Nat → Prop} {r : Int32} {M' : Mem} (C : Cx p s m args meth c cX9_budget 5 RX9 (some .boolean) D cI cZ A)  (x1 x2 x3 x4 : Int32) (M : Mem) (H : Heap) (locs : List Loc) (ls : Array Slot) (hf : fX9_budget x1 x2 x3 x4 M = some (r, M')) (hst : St D (wM cI cZ a) A s.heap H locs M) (hl : lv_has ls 5 [(0, .ref (a 0)), (1, .int x1), (2, .int x2), (3, .int x3), (4, .int x4)]) : Wi p l e { frames := 2, cells := 0, slots := 0, locals := 42 } s m args below meth c D (wM cI cZ a) A r M' H locs (F0 m 0 ls []) := by
  unfold fX9_budget at hf
  obtain ⟨hx, hb, hml, hown, hU, hr, hlk, hK, hA⟩ := id C
  refine lv_iload_n hx hb dX9_budget_0 rfl (lv_at hl 1 rfl) ?_
  obtain ⟨r_1, M_1, hc_1, hf⟩ := obi_some hf
  refine w_cSi (As := [.int x1]) (rest := []) C (wM_ad cI cZ a) (mX9_isOwner l D cI cZ a x1 M r_1 M_1 hc_1) calX9_isOwner casX9_isOwner (mU3 138 rfl rfl) hst hl.1 rfl rfl (Nat.le_of_ble_eq_true rfl) ⟨Nat.le_of_ble_eq_true rfl, Nat.le_of_ble_eq_true rfl⟩ dX9_budget_1 (fun H locs hst => ?_)
  refine lv_if_eq (tgt := 35) hx hb dX9_budget_4 (by decide) (fun c_4 => ?_) (fun c_4 => ?_)
  · have hf := ifp c_4 hf
    refine lv_iconst (v := 0) hx hb dX9_budget_35 (by decide) ?_
    obtain ⟨e1, e2⟩ := sinj hf
    subst e1
    subst e2
    exact w_zret C rfl hst dX9_budget_36
  · have hf := ifn c_4 hf
    refine lv_iload_n hx hb dX9_budget_7 rfl (lv_at hl 2 rfl) ?_
    refine lv_iconst (v := 0) hx hb dX9_budget_8 (by decide) ?_
    refine lv_ldc (v := 100000000) hx hb hown (hU (.constant RX9 147 100000000) (mU4 16 rfl rfl)) dX9_budget_9 ?_
    obtain ⟨r_11, M_11, hc_11, hf⟩ := obi_some hf
    refine w_cSi (As := [.int x2, .int (0 : Int32), .int (100000000 : Int32)]) (rest := []) C (wM_ad cI cZ a) (mX9_isIn l D cI cZ a x2 (0 : Int32) (100000000 : Int32) M_1 r_11 M_11 hc_11) calX9_isIn casX9_isIn (mU3 135 rfl rfl) hst hl.1 rfl rfl (Nat.le_of_ble_eq_true rfl) ⟨Nat.le_of_ble_eq_true rfl, Nat.le_of_ble_eq_true rfl⟩ dX9_budget_11 (fun H locs hst => ?_)
    refine lv_if_eq (tgt := 35) hx hb dX9_budget_14 (by decide) (fun c_14 => ?_) (fun c_14 => ?_)
    · have hf := ifp c_14 hf
      refine lv_iconst (v := 0) hx hb dX9_budget_35 (by decide) ?_
      obtain ⟨e1, e2⟩ := sinj hf
      subst e1
      subst e2
      exact w_zret C rfl hst dX9_budget_36
    · have hf := ifn c_14 hf
      refine lv_iload_n hx hb dX9_budget_17 rfl (lv_at hl 3 rfl) ?_
      refine lv_if_lt (tgt := 35) hx hb dX9_budget_18 (by decide) (fun c_18 => ?_) (fun c_18 => ?_)
      · have hf := ifp c_18 hf
        refine lv_iconst (v := 0) hx hb dX9_budget_35 (by decide) ?_
        obtain ⟨e1, e2⟩ := sinj hf
        subst e1
        subst e2
        exact w_zret C rfl hst dX9_budget_36
      · have hf := ifn c_18 hf
        refine lv_iload_n hx hb dX9_budget_21 rfl (lv_at hl 3 rfl) ?_
        refine lv_iload hx hb dX9_budget_22 (lv_at hl 4 rfl) ?_
        refine lv_icmp_ge (tgt := 35) hx hb dX9_budget_24 (by decide) (fun c_24 => ?_) (fun c_24 => ?_)
        · have hf := ifp c_24 hf
          refine lv_iconst (v := 0) hx hb dX9_budget_35 (by decide) ?_
          obtain ⟨e1, e2⟩ := sinj hf
          subst e1
          subst e2
          exact w_zret C rfl hst dX9_budget_36
        · have hf := ifn c_24 hf
          refine lv_iload hx hb dX9_budget_27 (lv_at hl 4 rfl) ?_
          refine lv_sipush (v := 2000) hx hb dX9_budget_29 (by decide) ?_
          refine lv_icmp_le (tgt := 37) hx hb dX9_budget_32 (by decide) (fun c_32 => ?_) (fun c_32 => ?_)
          · have hf := ifp c_32 hf
            refine lv_aload_n hx hb dX9_budget_37 rfl (lv_at hl 0 rfl) ?_
            refine gf_X9_60 C hst dX9_budget_38 ?_
            refine lv_iload_n hx hb dX9_budget_41 rfl (lv_at hl 1 rfl) ?_
            refine lv_iload_n hx hb dX9_budget_42 rfl (lv_at hl 2 rfl) ?_
            obtain ⟨h_43, hf⟩ := og hf
            refine w_iast (N := 4) (f := M_11 16) (M' := (upM M_11 16 (Int32.toNatClampNeg x1) x2)) C hst 16 rfl (wM_set16 cI cZ a M_11 (Int32.toNatClampNeg x1) x2) h_43 dX9_budget_43 (fun H locs hst => ?_)
            refine lv_aload_n hx hb dX9_budget_44 rfl (lv_at hl 0 rfl) ?_
            refine gf_X9_63 C hst dX9_budget_45 ?_
            refine lv_iload_n hx hb dX9_budget_48 rfl (lv_at hl 1 rfl) ?_
            refine lv_iload_n hx hb dX9_budget_49 rfl (lv_at hl 3 rfl) ?_
            refine w_iast (N := 4) (f := (upM M_11 16 (Int32.toNatClampNeg x1) x2) 17) (M' := (upM (upM M_11 16 (Int32.toNatClampNeg x1) x2) 17 (Int32.toNatClampNeg x1) x3)) C hst 17 rfl (wM_set17 cI cZ a (upM M_11 16 (Int32.toNatClampNeg x1) x2) (Int32.toNatClampNeg x1) x3) h_43 dX9_budget_50 (fun H locs hst => ?_)
            refine lv_aload_n hx hb dX9_budget_51 rfl (lv_at hl 0 rfl) ?_
            refine gf_X9_66 C hst dX9_budget_52 ?_
            refine lv_iload_n hx hb dX9_budget_55 rfl (lv_at hl 1 rfl) ?_
            refine lv_iload hx hb dX9_budget_56 (lv_at hl 4 rfl) ?_
            refine w_iast (N := 4) (f := (upM (upM M_11 16 (Int32.toNatClampNeg x1) x2) 17 (Int32.toNatClampNeg x1) x3) 18) (M' := (upM (upM (upM M_11 16 (Int32.toNatClampNeg x1) x2) 17 (Int32.toNatClampNeg x1) x3) 18 (Int32.toNatClampNeg x1) x4)) C hst 18 rfl (wM_set18 cI cZ a (upM (upM M_11 16 (Int32.toNatClampNeg x1) x2) 17 (Int32.toNatClampNeg x1) x3) (Int32.toNatClampNeg x1) x4) h_43 dX9_budget_58 (fun H locs hst => ?_)
            refine lv_iconst (v := 1) hx hb dX9_budget_59 (by decide) ?_
            obtain ⟨e1, e2⟩ := sinj hf
            subst e1
            subst e2
            exact w_zret C rfl hst dX9_budget_60
          · have hf := ifn c_32 hf
            refine lv_iconst (v := 0) hx hb dX9_budget_35 (by decide) ?_
            obtain ⟨e1, e2⟩ := sinj hf
            subst e1
            subst e2
            exact w_zret C rfl hst dX9_budget_36
set_option maxRecDepth 100000 in
theorem mX9_budget (l : Launch) (D : va_G) (cI cZ : ClassId) (a : Nat → Nat) (x1 x2 x3 x4 : Int32) (M : Mem) (r : Int32) (M' : Mem) (hf : fX9_budget x1 x2 x3 x4 M = some (r, M')) : MI l D cI cZ (wM cI cZ a) yX9_budget cX9_budget 5 (some .boolean) 2 42 [.ref (a 0), .int x1, .int x2, .int x3, .int x4] M r M' :=
  MI.of (by decide) (Nat.le_of_ble_eq_true rfl) (fun p e s m args below meth c A C hst ls hl => kX9_budget_0 C x1 x2 x3 x4 M s.heap [] ls hf hst hl)

def gX9_foretold_90 (K5 : Int32 → Int32 → Int32 → Int32 → Mem → Res) (K46 : Int32 → Int32 → Int32 → Int32 → Int32 → Int32 → Mem → Res) (x1 x2 x3 x4 x5 x6 x7 : Int32) (M : Mem) : Res :=
  K46 x1 x2 x3 x4 x5 (x6 + 1) M
def gX9_foretold_86 (K5 : Int32 → Int32 → Int32 → Int32 → Mem → Res) (K46 : Int32 → Int32 → Int32 → Int32 → Int32 → Int32 → Mem → Res) (x1 x2 x3 x4 x5 x6 x7 : Int32) (M : Mem) : Res :=
  gX9_foretold_90 K5 K46 x1 x2 x3 x4 x7 x6 x7 M
def gX9_foretold_46 (K5 : Int32 → Int32 → Int32 → Int32 → Mem → Res) (K46 : Int32 → Int32 → Int32 → Int32 → Int32 → Int32 → Mem → Res) (x1 x2 x3 x4 x5 x6 : Int32) (M : Mem) : Res :=
  (if (M 0 0) ≤ x6 then obi (fX9_part x4 x5 x1 M) (fun r_103 M_103 => K5 x1 x2 (x3 + r_103) (x4 + 1) M_103) else obi (fX9_costOf x4 x6 M) (fun r_60 M_60 => (if x2 = 0 then (if x5 ≤ r_60 then gX9_foretold_90 K5 K46 x1 x2 x3 x4 x5 x6 r_60 M_60 else gX9_foretold_86 K5 K46 x1 x2 x3 x4 x5 x6 r_60 M_60) else (if r_60 ≤ x5 then gX9_foretold_90 K5 K46 x1 x2 x3 x4 x5 x6 r_60 M_60 else gX9_foretold_86 K5 K46 x1 x2 x3 x4 x5 x6 r_60 M_60))))
def lX9_foretold_46 (K5 : Int32 → Int32 → Int32 → Int32 → Mem → Res) : Nat → Int32 → Int32 → Int32 → Int32 → Int32 → Int32 → Mem → Res
  | 0, _, _, _, _, _, _, _ => none
  | n + 1, x1, x2, x3, x4, x5, x6, M => gX9_foretold_46 K5 (lX9_foretold_46 K5 n) x1 x2 x3 x4 x5 x6 M
def gX9_foretold_44 (K5 : Int32 → Int32 → Int32 → Int32 → Mem → Res) (x1 x2 x3 x4 x5 z0 : Int32) (M : Mem) : Res :=
  lX9_foretold_46 K5 fu x1 x2 x3 x4 x5 z0 M
def gX9_foretold_5 (K5 : Int32 → Int32 → Int32 → Int32 → Mem → Res) (x1 x2 x3 x4 : Int32) (M : Mem) : Res :=
  (if (6 : Int32) ≤ x4 then some (x3, M) else obi (fX9_costOf x4 (M 0 0) M) (fun r_19 M_19 => (if (M_19 0 0) ≤ (23 : Int32) then gX9_foretold_44 K5 x1 x2 x3 x4 r_19 (0 : Int32) M_19 else gX9_foretold_44 K5 x1 x2 x3 x4 r_19 ((M_19 0 0) - (23 : Int32)) M_19)))
def lX9_foretold_5 : Nat → Int32 → Int32 → Int32 → Int32 → Mem → Res
  | 0, _, _, _, _, _ => none
  | n + 1, x1, x2, x3, x4, M => gX9_foretold_5 (lX9_foretold_5 n) x1 x2 x3 x4 M
def fX9_foretold (x1 x2 : Int32) (M : Mem) : Res :=
  lX9_foretold_5  fu x1 x2 (0 : Int32) (0 : Int32) M
theorem calX9_foretold : Cal yX9_foretold cX9_foretold 8 (some .int) 2 := ⟨(mU4 28 rfl rfl), (mU1 10 rfl rfl), by decide +kernel⟩
theorem cavX9_foretold : CalV yX9_foretold := ⟨(mU4 27 rfl rfl), (mS2 10 rfl)⟩
set_option maxHeartbeats 4000000 in
set_option maxRecDepth 100000 in
theorem kX9_foretold_90 {p : Program} {l : Launch} {e : Env} {s : State} {m : MethodId} {args : Array Value} {below : List Frame} {meth : Method} {c : Code} {D : va_G} {cI cZ : ClassId} {a : Nat → Nat} {A : Nat → Prop} {r : Int32} {M' : Mem} (C : Cx p s m args meth c cX9_foretold 8 RX9 (some .int) D cI cZ A) (K5 : Int32 → Int32 → Int32 → Int32 → Mem → Res) (hK5 : ∀ (x1 x2 x3 x4 : Int32) (M : Mem) (H : Heap) (locs : List Loc) (ls : Array Slot), K5 x1 x2 x3 x4 M = some (r, M') → St D (wM cI cZ a) A s.heap H locs M → lv_has ls 8 [(0, .ref (a 0)), (1, .int x1), (2, .int x2), (3, .int x3), (4, .int x4)] → Wi p l e { frames := 2, cells := 0, slots := 0, locals := 46 } s m args below meth c D (wM cI cZ a) A r M' H locs (F0 m 5 ls [])) (K46 : Int32 → Int32 → Int32 → Int32 → Int32 → Int32 → Mem → Res) (hK46 : ∀ (x1 x2 x3 x4 x5 x6 : Int32) (M : Mem) (H : Heap) (locs : List Loc) (ls : Array Slot), K46 x1 x2 x3 x4 x5 x6 M = some (r, M') → St D (wM cI cZ a) A s.heap H locs M → lv_has ls 8 [(0, .ref (a 0)), (1, .int x1), (2, .int x2), (3, .int x3), (4, .int x4), (5, .int x5), (6, .int x6)] → Wi p l e { frames := 2, cells := 0, slots := 0, locals := 46 } s m args below meth c D (wM cI cZ a) A r M' H locs (F0 m 46 ls [])) (x1 x2 x3 x4 x5 x6 x7 : Int32) (M : Mem) (H : Heap) (locs : List Loc) (ls : Array Slot) (hf : gX9_foretold_90 K5 K46 x1 x2 x3 x4 x5 x6 x7 M = some (r, M')) (hst : St D (wM cI cZ a) A s.heap H locs M) (hl : lv_has ls 8 [(0, .ref (a 0)), (1, .int x1), (2, .int x2), (3, .int x3), (4, .int x4), (5, .int x5), (6, .int x6), (7, .int x7)]) : Wi p l e { frames := 2, cells := 0, slots := 0, locals := 46 } s m args below meth c D (wM cI cZ a) A r M' H locs (F0 m 90 ls []) := by
  unfold gX9_foretold_90 at hf
  obtain ⟨hx, hb, hml, hown, hU, hr, hlk, hK, hA⟩ := id C
  refine lv_iinc (v := (x6 + 1)) (lv' := [(6, .int (x6 + 1)), (0, .ref (a 0)), (1, .int x1), (2, .int x2), (3, .int x3), (4, .int x4), (5, .int x5), (7, .int x7)]) hx hb dX9_foretold_90 hl (k := 6) rfl rfl (by decide) rfl (fun ls hl => ?_)
  refine lv_goto (tgt := 46) hx hb dX9_foretold_93 (by decide) ?_
  exact hK46 x1 x2 x3 x4 x5 (x6 + 1) M _ _ _ hf hst (lv_sub hl [1, 2, 3, 4, 5, 6, 0] rfl)
set_option maxHeartbeats 4000000 in
set_option maxRecDepth 100000 in
theorem kX9_foretold_86 {p : Program} {l : Launch} {e : Env} {s : State} {m : MethodId} {args : Array Value} {below : List Frame} {meth : Method} {c : Code} {D : va_G} {cI cZ : ClassId} {a : Nat → Nat} {A : Nat → Prop} {r : Int32} {M' : Mem} (C : Cx p s m args meth c cX9_foretold 8 RX9 (some .int) D cI cZ A) (K5 : Int32 → Int32 → Int32 → Int32 → Mem → Res) (hK5 : ∀ (x1 x2 x3 x4 : Int32) (M : Mem) (H : Heap) (locs : List Loc) (ls : Array Slot), K5 x1 x2 x3 x4 M = some (r, M') → St D (wM cI cZ a) A s.heap H locs M → lv_has ls 8 [(0, .ref (a 0)), (1, .int x1), (2, .int x2), (3, .int x3), (4, .int x4)] → Wi p l e { frames := 2, cells := 0, slots := 0, locals := 46 } s m args below meth c D (wM cI cZ a) A r M' H locs (F0 m 5 ls [])) (K46 : Int32 → Int32 → Int32 → Int32 → Int32 → Int32 → Mem → Res) (hK46 : ∀ (x1 x2 x3 x4 x5 x6 : Int32) (M : Mem) (H : Heap) (locs : List Loc) (ls : Array Slot), K46 x1 x2 x3 x4 x5 x6 M = some (r, M') → St D (wM cI cZ a) A s.heap H locs M → lv_has ls 8 [(0, .ref (a 0)), (1, .int x1), (2, .int x2), (3, .int x3), (4, .int x4), (5, .int x5), (6, .int x6)] → Wi p l e { frames := 2, cells := 0, slots := 0, locals := 46 } s m args below meth c D (wM cI cZ a) A r M' H locs (F0 m 46 ls [])) (x1 x2 x3 x4 x5 x6 x7 : Int32) (M : Mem) (H : Heap) (locs : List Loc) (ls : Array Slot) (hf : gX9_foretold_86 K5 K46 x1 x2 x3 x4 x5 x6 x7 M = some (r, M')) (hst : St D (wM cI cZ a) A s.heap H locs M) (hl : lv_has ls 8 [(0, .ref (a 0)), (1, .int x1), (2, .int x2), (3, .int x3), (4, .int x4), (5, .int x5), (6, .int x6), (7, .int x7)]) : Wi p l e { frames := 2, cells := 0, slots := 0, locals := 46 } s m args below meth c D (wM cI cZ a) A r M' H locs (F0 m 86 ls []) := by
  unfold gX9_foretold_86 at hf
  obtain ⟨hx, hb, hml, hown, hU, hr, hlk, hK, hA⟩ := id C
  refine lv_iload hx hb dX9_foretold_86 (lv_at hl 7 rfl) ?_
  refine lv_istore (lv' := [(5, .int x7), (0, .ref (a 0)), (1, .int x1), (2, .int x2), (3, .int x3), (4, .int x4), (6, .int x6), (7, .int x7)]) hx hb dX9_foretold_88 hl (by decide) rfl (fun ls hl => ?_)
  exact kX9_foretold_90 C K5 hK5 K46 hK46 x1 x2 x3 x4 x7 x6 x7 M _ _ _ hf hst (lv_sub hl [1, 2, 3, 4, 5, 0, 6, 7] rfl)
set_option maxHeartbeats 4000000 in
set_option maxRecDepth 100000 in
theorem kX9_foretold_46 {p : Program} {l : Launch} {e : Env} {s : State} {m : MethodId} {args : Array Value} {below : List Frame} {meth : Method} {c : Code} {D : va_G} {cI cZ : ClassId} {a : Nat → Nat} {A : Nat → Prop} {r : Int32} {M' : Mem} (C : Cx p s m args meth c cX9_foretold 8 RX9 (some .int) D cI cZ A) (K5 : Int32 → Int32 → Int32 → Int32 → Mem → Res) (hK5 : ∀ (x1 x2 x3 x4 : Int32) (M : Mem) (H : Heap) (locs : List Loc) (ls : Array Slot), K5 x1 x2 x3 x4 M = some (r, M') → St D (wM cI cZ a) A s.heap H locs M → lv_has ls 8 [(0, .ref (a 0)), (1, .int x1), (2, .int x2), (3, .int x3), (4, .int x4)] → Wi p l e { frames := 2, cells := 0, slots := 0, locals := 46 } s m args below meth c D (wM cI cZ a) A r M' H locs (F0 m 5 ls [])) (K46 : Int32 → Int32 → Int32 → Int32 → Int32 → Int32 → Mem → Res) (hK46 : ∀ (x1 x2 x3 x4 x5 x6 : Int32) (M : Mem) (H : Heap) (locs : List Loc) (ls : Array Slot), K46 x1 x2 x3 x4 x5 x6 M = some (r, M') → St D (wM cI cZ a) A s.heap H locs M → lv_has ls 8 [(0, .ref (a 0)), (1, .int x1), (2, .int x2), (3, .int x3), (4, .int x4), (5, .int x5), (6, .int x6)] → Wi p l e { frames := 2, cells := 0, slots := 0, locals := 46 } s m args below meth c D (wM cI cZ a) A r M' H locs (F0 m 46 ls [])) (x1 x2 x3 x4 x5 x6 : Int32) (M : Mem) (H : Heap) (locs : List Loc) (ls : Array Slot) (hf : gX9_foretold_46 K5 K46 x1 x2 x3 x4 x5 x6 M = some (r, M')) (hst : St D (wM cI cZ a) A s.heap H locs M) (hl : lv_has ls 8 [(0, .ref (a 0)), (1, .int x1), (2, .int x2), (3, .int x3), (4, .int x4), (5, .int x5), (6, .int x6)]) : Wi p l e { frames := 2, cells := 0, slots := 0, locals := 46 } s m args below meth c D (wM cI cZ a) A r M' H locs (F0 m 46 ls []) := by
  unfold gX9_foretold_46 at hf
  obtain ⟨hx, hb, hml, hown, hU, hr, hlk, hK, hA⟩ := id C
  refine lv_iload hx hb dX9_foretold_46 (lv_at hl 6 rfl) ?_
  refine lv_aload_n hx hb dX9_foretold_48 rfl (lv_at hl 0 rfl) ?_
  refine gf_X9_83 C hst dX9_foretold_49 ?_
  refine lv_icmp_ge (tgt := 96) hx hb dX9_foretold_52 (by decide) (fun c_52 => ?_) (fun c_52 => ?_)
  · have hf := ifp c_52 hf
    refine lv_iload_n hx hb dX9_foretold_96 rfl (lv_at hl 3 rfl) ?_
    refine lv_aload_n hx hb dX9_foretold_97 rfl (lv_at hl 0 rfl) ?_
    refine lv_iload hx hb dX9_foretold_98 (lv_at hl 4 rfl) ?_
    refine lv_iload hx hb dX9_foretold_100 (lv_at hl 5 rfl) ?_
    refine lv_iload_n hx hb dX9_foretold_102 rfl (lv_at hl 1 rfl) ?_
    obtain ⟨r_103, M_103, hc_103, hf⟩ := obi_some hf
    refine w_cVi (As := [.int x4, .int x5, .int x1]) (rest := [.int x3]) C (wM_ad cI cZ a) (mX9_part l D cI cZ a x4 x5 x1 M r_103 M_103 hc_103) calX9_part cavX9_part (mU4 8 rfl rfl) hst hl.1 0 9 rfl rfl rfl rfl (Nat.le_of_ble_eq_true rfl) ⟨Nat.le_of_ble_eq_true rfl, Nat.le_of_ble_eq_true rfl⟩ dX9_foretold_103 (fun H locs hst => ?_)
    refine lv_iadd hx hb dX9_foretold_106 ?_
    refine lv_istore_n (lv' := [(3, .int (x3 + r_103)), (0, .ref (a 0)), (1, .int x1), (2, .int x2), (4, .int x4), (5, .int x5), (6, .int x6)]) hx hb dX9_foretold_107 rfl hl (by decide) rfl (fun ls hl => ?_)
    refine lv_iinc (v := (x4 + 1)) (lv' := [(4, .int (x4 + 1)), (3, .int (x3 + r_103)), (0, .ref (a 0)), (1, .int x1), (2, .int x2), (5, .int x5), (6, .int x6)]) hx hb dX9_foretold_108 hl (k := 4) rfl rfl (by decide) rfl (fun ls hl => ?_)
    refine lv_goto (tgt := 5) hx hb dX9_foretold_111 (by decide) ?_
    exact hK5 x1 x2 (x3 + r_103) (x4 + 1) M_103 _ _ _ hf hst (lv_sub hl [2, 3, 4, 1, 0] rfl)
  · have hf := ifn c_52 hf
    refine lv_aload_n hx hb dX9_foretold_55 rfl (lv_at hl 0 rfl) ?_
    refine lv_iload hx hb dX9_foretold_56 (lv_at hl 4 rfl) ?_
    refine lv_iload hx hb dX9_foretold_58 (lv_at hl 6 rfl) ?_
    obtain ⟨r_60, M_60, hc_60, hf⟩ := obi_some hf
    refine w_cVi (As := [.int x4, .int x6]) (rest := []) C (wM_ad cI cZ a) (mX9_costOf l D cI cZ a x4 x6 M r_60 M_60 hc_60) calX9_costOf cavX9_costOf (mU3 174 rfl rfl) hst hl.1 0 9 rfl rfl rfl rfl (Nat.le_of_ble_eq_true rfl) ⟨Nat.le_of_ble_eq_true rfl, Nat.le_of_ble_eq_true rfl⟩ dX9_foretold_60 (fun H locs hst => ?_)
    refine lv_istore (lv' := [(7, .int r_60), (0, .ref (a 0)), (1, .int x1), (2, .int x2), (3, .int x3), (4, .int x4), (5, .int x5), (6, .int x6)]) hx hb dX9_foretold_63 hl (by decide) rfl (fun ls hl => ?_)
    refine lv_iload_n hx hb dX9_foretold_65 rfl (lv_at hl 3 rfl) ?_
    refine lv_if_eq (tgt := 79) hx hb dX9_foretold_66 (by decide) (fun c_66 => ?_) (fun c_66 => ?_)
    · have hf := ifp c_66 hf
      refine lv_iload hx hb dX9_foretold_79 (lv_at hl 0 rfl) ?_
      refine lv_iload hx hb dX9_foretold_81 (lv_at hl 6 rfl) ?_
      refine lv_icmp_ge (tgt := 90) hx hb dX9_foretold_83 (by decide) (fun c_83 => ?_) (fun c_83 => ?_)
      · have hf := ifp c_83 hf
        exact kX9_foretold_90 C K5 hK5 K46 hK46 x1 x2 x3 x4 x5 x6 r_60 M_60 _ _ _ hf hst (lv_sub hl [1, 2, 3, 4, 5, 6, 7, 0] rfl)
      · have hf := ifn c_83 hf
        exact kX9_foretold_86 C K5 hK5 K46 hK46 x1 x2 x3 x4 x5 x6 r_60 M_60 _ _ _ hf hst (lv_sub hl [1, 2, 3, 4, 5, 6, 7, 0] rfl)
    · have hf := ifn c_66 hf
      refine lv_iload hx hb dX9_foretold_69 (lv_at hl 0 rfl) ?_
      refine lv_iload hx hb dX9_foretold_71 (lv_at hl 6 rfl) ?_
      refine lv_icmp_le (tgt := 90) hx hb dX9_foretold_73 (by decide) (fun c_73 => ?_) (fun c_73 => ?_)
      · have hf := ifp c_73 hf
        exact kX9_foretold_90 C K5 hK5 K46 hK46 x1 x2 x3 x4 x5 x6 r_60 M_60 _ _ _ hf hst (lv_sub hl [1, 2, 3, 4, 5, 6, 7, 0] rfl)
      · have hf := ifn c_73 hf
        refine lv_goto (tgt := 86) hx hb dX9_foretold_76 (by decide) ?_
        exact kX9_foretold_86 C K5 hK5 K46 hK46 x1 x2 x3 x4 x5 x6 r_60 M_60 _ _ _ hf hst (lv_sub hl [1, 2, 3, 4, 5, 6, 7, 0] rfl)
theorem tX9_foretold_46 {p : Program} {l : Launch} {e : Env} {s : State} {m : MethodId} {args : Array Value} {below : List Frame} {meth : Method} {c : Code} {D : va_G} {cI cZ : ClassId} {a : Nat → Nat} {A : Nat → Prop} {r : Int32} {M' : Mem} (C : Cx p s m args meth c cX9_foretold 8 RX9 (some .int) D cI cZ A) (K5 : Int32 → Int32 → Int32 → Int32 → Mem → Res) (hK5 : ∀ (x1 x2 x3 x4 : Int32) (M : Mem) (H : Heap) (locs : List Loc) (ls : Array Slot), K5 x1 x2 x3 x4 M = some (r, M') → St D (wM cI cZ a) A s.heap H locs M → lv_has ls 8 [(0, .ref (a 0)), (1, .int x1), (2, .int x2), (3, .int x3), (4, .int x4)] → Wi p l e { frames := 2, cells := 0, slots := 0, locals := 46 } s m args below meth c D (wM cI cZ a) A r M' H locs (F0 m 5 ls [])) : ∀ (n : Nat) (x1 x2 x3 x4 x5 x6 : Int32) (M : Mem) (H : Heap) (locs : List Loc) (ls : Array Slot), lX9_foretold_46 K5 n x1 x2 x3 x4 x5 x6 M = some (r, M') → St D (wM cI cZ a) A s.heap H locs M → lv_has ls 8 [(0, .ref (a 0)), (1, .int x1), (2, .int x2), (3, .int x3), (4, .int x4), (5, .int x5), (6, .int x6)] → Wi p l e { frames := 2, cells := 0, slots := 0, locals := 46 } s m args below meth c D (wM cI cZ a) A r M' H locs (F0 m 46 ls []) := by
  intro n
  induction n with
  | zero =>
    intro x1 x2 x3 x4 x5 x6 M H locs ls hf
    exact nomatch (show (none : Res) = some (r, M') from hf)
  | succ n ih =>
    intro x1 x2 x3 x4 x5 x6 M H locs ls hf hst hl
    exact kX9_foretold_46 C K5 hK5 (lX9_foretold_46 K5 n) ih x1 x2 x3 x4 x5 x6 M H locs ls hf hst hl

set_option maxHeartbeats 4000000 in
set_option maxRecDepth 100000 in
theorem kX9_foretold_44 {p : Program} {l : Launch} {e : Env} {s : State} {m : MethodId} {args : Array Value} {below : List Frame} {meth : Method} {c : Code} {D : va_G} {cI cZ : ClassId} {a : Nat → Nat} {A : Nat → Prop} {r : Int32} {M' : Mem} (C : Cx p s m args meth c cX9_foretold 8 RX9 (some .int) D cI cZ A) (K5 : Int32 → Int32 → Int32 → Int32 → Mem → Res) (hK5 : ∀ (x1 x2 x3 x4 : Int32) (M : Mem) (H : Heap) (locs : List Loc) (ls : Array Slot), K5 x1 x2 x3 x4 M = some (r, M') → St D (wM cI cZ a) A s.heap H locs M → lv_has ls 8 [(0, .ref (a 0)), (1, .int x1), (2, .int x2), (3, .int x3), (4, .int x4)] → Wi p l e { frames := 2, cells := 0, slots := 0, locals := 46 } s m args below meth c D (wM cI cZ a) A r M' H locs (F0 m 5 ls [])) (x1 x2 x3 x4 x5 z0 : Int32) (M : Mem) (H : Heap) (locs : List Loc) (ls : Array Slot) (hf : gX9_foretold_44 K5 x1 x2 x3 x4 x5 z0 M = some (r, M')) (hst : St D (wM cI cZ a) A s.heap H locs M) (hl : lv_has ls 8 [(0, .ref (a 0)), (1, .int x1), (2, .int x2), (3, .int x3), (4, .int x4), (5, .int x5)]) : Wi p l e { frames := 2, cells := 0, slots := 0, locals := 46 } s m args below meth c D (wM cI cZ a) A r M' H locs (F0 m 44 ls [.int z0]) := by
  unfold gX9_foretold_44 at hf
  obtain ⟨hx, hb, hml, hown, hU, hr, hlk, hK, hA⟩ := id C
  refine lv_istore (lv' := [(6, .int z0), (0, .ref (a 0)), (1, .int x1), (2, .int x2), (3, .int x3), (4, .int x4), (5, .int x5)]) hx hb dX9_foretold_44 hl (by decide) rfl (fun ls hl => ?_)
  exact tX9_foretold_46 C K5 hK5 fu x1 x2 x3 x4 x5 z0 M _ _ _ hf hst (lv_sub hl [1, 2, 3, 4, 5, 6, 0] rfl)
set_option maxHeartbeats 4000000 in
set_option maxRecDepth 100000 in
theorem kX9_foretold_5 {p : Program} {l : Launch} {e : Env} {s : State} {m : MethodId} {args : Array Value} {below : List Frame} {meth : Method} {c : Code} {D : va_G} {cI cZ : ClassId} {a : Nat → Nat} {A : Nat → Prop} {r : Int32} {M' : Mem} (C : Cx p s m args meth c cX9_foretold 8 RX9 (some .int) D cI cZ A) (K5 : Int32 → Int32 → Int32 → Int32 → Mem → Res) (hK5 : ∀ (x1 x2 x3 x4 : Int32) (M : Mem) (H : Heap) (locs : List Loc) (ls : Array Slot), K5 x1 x2 x3 x4 M = some (r, M') → St D (wM cI cZ a) A s.heap H locs M → lv_has ls 8 [(0, .ref (a 0)), (1, .int x1), (2, .int x2), (3, .int x3), (4, .int x4)] → Wi p l e { frames := 2, cells := 0, slots := 0, locals := 46 } s m args below meth c D (wM cI cZ a) A r M' H locs (F0 m 5 ls [])) (x1 x2 x3 x4 : Int32) (M : Mem) (H : Heap) (locs : List Loc) (ls : Array Slot) (hf : gX9_foretold_5 K5 x1 x2 x3 x4 M = some (r, M')) (hst : St D (wM cI cZ a) A s.heap H locs M) (hl : lv_has ls 8 [(0, .ref (a 0)), (1, .int x1), (2, .int x2), (3, .int x3), (4, .int x4)]) : Wi p l e { frames := 2, cells := 0, slots := 0, locals := 46 } s m args below meth c D (wM cI cZ a) A r M' H locs (F0 m 5 ls []) := by
  unfold gX9_foretold_5 at hf
  obtain ⟨hx, hb, hml, hown, hU, hr, hlk, hK, hA⟩ := id C
  refine lv_iload hx hb dX9_foretold_5 (lv_at hl 4 rfl) ?_
  refine lv_bipush (v := 6) hx hb dX9_foretold_7 (by decide) ?_
  refine lv_icmp_ge (tgt := 114) hx hb dX9_foretold_9 (by decide) (fun c_9 => ?_) (fun c_9 => ?_)
  · have hf := ifp c_9 hf
    refine lv_iload_n hx hb dX9_foretold_114 rfl (lv_at hl 3 rfl) ?_
    obtain ⟨e1, e2⟩ := sinj hf
    subst e1
    subst e2
    exact w_iret C hst dX9_foretold_115
  · have hf := ifn c_9 hf
    refine lv_aload_n hx hb dX9_foretold_12 rfl (lv_at hl 0 rfl) ?_
    refine lv_iload hx hb dX9_foretold_13 (lv_at hl 4 rfl) ?_
    refine lv_aload_n hx hb dX9_foretold_15 rfl (lv_at hl 0 rfl) ?_
    refine gf_X9_83 C hst dX9_foretold_16 ?_
    obtain ⟨r_19, M_19, hc_19, hf⟩ := obi_some hf
    refine w_cVi (As := [.int x4, .int (M 0 0)]) (rest := []) C (wM_ad cI cZ a) (mX9_costOf l D cI cZ a x4 (M 0 0) M r_19 M_19 hc_19) calX9_costOf cavX9_costOf (mU3 174 rfl rfl) hst hl.1 0 9 rfl rfl rfl rfl (Nat.le_of_ble_eq_true rfl) ⟨Nat.le_of_ble_eq_true rfl, Nat.le_of_ble_eq_true rfl⟩ dX9_foretold_19 (fun H locs hst => ?_)
    refine lv_istore (lv' := [(5, .int r_19), (0, .ref (a 0)), (1, .int x1), (2, .int x2), (3, .int x3), (4, .int x4)]) hx hb dX9_foretold_22 hl (by decide) rfl (fun ls hl => ?_)
    refine lv_aload_n hx hb dX9_foretold_24 rfl (lv_at hl 1 rfl) ?_
    refine gf_X9_83 C hst dX9_foretold_25 ?_
    refine lv_bipush (v := 23) hx hb dX9_foretold_28 (by decide) ?_
    refine lv_icmp_le (tgt := 43) hx hb dX9_foretold_30 (by decide) (fun c_30 => ?_) (fun c_30 => ?_)
    · have hf := ifp c_30 hf
      refine lv_iconst (v := 0) hx hb dX9_foretold_43 (by decide) ?_
      exact kX9_foretold_44 C K5 hK5 x1 x2 x3 x4 r_19 (0 : Int32) M_19 _ _ _ hf hst (lv_sub hl [1, 2, 3, 4, 5, 0] rfl)
    · have hf := ifn c_30 hf
      refine lv_aload_n hx hb dX9_foretold_33 rfl (lv_at hl 1 rfl) ?_
      refine gf_X9_83 C hst dX9_foretold_34 ?_
      refine lv_bipush (v := 23) hx hb dX9_foretold_37 (by decide) ?_
      refine lv_isub hx hb dX9_foretold_39 ?_
      refine lv_goto (tgt := 44) hx hb dX9_foretold_40 (by decide) ?_
      exact kX9_foretold_44 C K5 hK5 x1 x2 x3 x4 r_19 ((M_19 0 0) - (23 : Int32)) M_19 _ _ _ hf hst (lv_sub hl [1, 2, 3, 4, 5, 0] rfl)
theorem tX9_foretold_5 {p : Program} {l : Launch} {e : Env} {s : State} {m : MethodId} {args : Array Value} {below : List Frame} {meth : Method} {c : Code} {D : va_G} {cI cZ : ClassId} {a : Nat → Nat} {A : Nat → Prop} {r : Int32} {M' : Mem} (C : Cx p s m args meth c cX9_foretold 8 RX9 (some .int) D cI cZ A)  : ∀ (n : Nat) (x1 x2 x3 x4 : Int32) (M : Mem) (H : Heap) (locs : List Loc) (ls : Array Slot), lX9_foretold_5 n x1 x2 x3 x4 M = some (r, M') → St D (wM cI cZ a) A s.heap H locs M → lv_has ls 8 [(0, .ref (a 0)), (1, .int x1), (2, .int x2), (3, .int x3), (4, .int x4)] → Wi p l e { frames := 2, cells := 0, slots := 0, locals := 46 } s m args below meth c D (wM cI cZ a) A r M' H locs (F0 m 5 ls []) := by
  intro n
  induction n with
  | zero =>
    intro x1 x2 x3 x4 M H locs ls hf
    exact nomatch (show (none : Res) = some (r, M') from hf)
  | succ n ih =>
    intro x1 x2 x3 x4 M H locs ls hf hst hl
    exact kX9_foretold_5 C (lX9_foretold_5 n) ih x1 x2 x3 x4 M H locs ls hf hst hl

set_option maxHeartbeats 4000000 in
set_option maxRecDepth 100000 in
theorem kX9_foretold_0 {p : Program} {l : Launch} {e : Env} {s : State} {m : MethodId} {args : Array Value} {below : List Frame} {meth : Method} {c : Code} {D : va_G} {cI cZ : ClassId} {a : Nat → Nat} {A : Nat → Prop} {r : Int32} {M' : Mem} (C : Cx p s m args meth c cX9_foretold 8 RX9 (some .int) D cI cZ A)  (x1 x2 : Int32) (M : Mem) (H : Heap) (locs : List Loc) (ls : Array Slot) (hf : fX9_foretold x1 x2 M = some (r, M')) (hst : St D (wM cI cZ a) A s.heap H locs M) (hl : lv_has ls 8 [(0, .ref (a 0)), (1, .int x1), (2, .int x2)]) : Wi p l e { frames := 2, cells := 0, slots := 0, locals := 46 } s m args below meth c D (wM cI cZ a) A r M' H locs (F0 m 0 ls []) := by
  unfold fX9_foretold at hf
  obtain ⟨hx, hb, hml, hown, hU, hr, hlk, hK, hA⟩ := id C
  refine lv_iconst (v := 0) hx hb dX9_foretold_0 (by decide) ?_
  refine lv_istore_n (lv' := [(3, .int (0 : Int32)), (0, .ref (a 0)), (1, .int x1), (2, .int x2)]) hx hb dX9_foretold_1 rfl hl (by decide) rfl (fun ls hl => ?_)
  refine lv_iconst (v := 0) hx hb dX9_foretold_2 (by decide) ?_
  refine lv_istore (lv' := [(4, .int (0 : Int32)), (3, .int (0 : Int32)), (0, .ref (a 0)), (1, .int x1), (2, .int x2)]) hx hb dX9_foretold_3 hl (by decide) rfl (fun ls hl => ?_)
  exact tX9_foretold_5 C  fu x1 x2 (0 : Int32) (0 : Int32) M _ _ _ hf hst (lv_sub hl [2, 3, 4, 1, 0] rfl)
set_option maxRecDepth 100000 in
theorem mX9_foretold (l : Launch) (D : va_G) (cI cZ : ClassId) (a : Nat → Nat) (x1 x2 : Int32) (M : Mem) (r : Int32) (M' : Mem) (hf : fX9_foretold x1 x2 M = some (r, M')) : MI l D cI cZ (wM cI cZ a) yX9_foretold cX9_foretold 8 (some .int) 2 46 [.ref (a 0), .int x1, .int x2] M r M' :=
  MI.of (by decide) (Nat.le_of_ble_eq_true rfl) (fun p e s m args below meth c A C hst ls hl => kX9_foretold_0 C x1 x2 M s.heap [] ls hf hst hl)

def gX9_goes_84 (K23 : Int32 → Int32 → Int32 → Int32 → Int32 → Mem → Res) (x1 x2 x3 x4 x5 : Int32) (M : Mem) : Res :=
  K23 x1 x2 x3 x4 (x5 + 1) M
def gX9_goes_56 (K23 : Int32 → Int32 → Int32 → Int32 → Int32 → Mem → Res) (x1 x2 x3 x4 x5 z0 z1 : Int32) (M : Mem) : Res :=
  (if (M 0 24) = (-1 : Int32) then if x1 < 0 ∨ 4 ≤ Int32.toNatClampNeg x1 then none else (if (z0 + z1) ≤ (M 16 (Int32.toNatClampNeg x1)) then gX9_goes_84 K23 x1 x2 x3 (z0 + z1) x5 M else gX9_goes_84 K23 x1 x2 x3 (z0 + z1) x5 (upM M 0 24 x5)) else gX9_goes_84 K23 x1 x2 x3 (z0 + z1) x5 M)
def gX9_goes_23 (K23 : Int32 → Int32 → Int32 → Int32 → Int32 → Mem → Res) (x1 x2 x3 x4 x5 : Int32) (M : Mem) : Res :=
  if x1 < 0 ∨ 4 ≤ Int32.toNatClampNeg x1 then none else (if (M 18 (Int32.toNatClampNeg x1)) ≤ x5 then some (x4, M) else (if (M 0 0) < x5 then gX9_goes_56 K23 x1 x2 x3 x4 x5 x4 x3 M else obi (fX9_laidIn x1 x5 M) (fun r_49 M_49 => gX9_goes_56 K23 x1 x2 x3 x4 x5 x4 r_49 M_49)))
def lX9_goes_23 : Nat → Int32 → Int32 → Int32 → Int32 → Int32 → Mem → Res
  | 0, _, _, _, _, _, _ => none
  | n + 1, x1, x2, x3, x4, x5, M => gX9_goes_23 (lX9_goes_23 n) x1 x2 x3 x4 x5 M
def fX9_goes (x1 x2 : Int32) (M : Mem) : Res :=
  obi (fX9_foretold x1 x2 M) (fun r_3 M_3 => if x1 < 0 ∨ 4 ≤ Int32.toNatClampNeg x1 then none else lX9_goes_23  fu x1 x2 r_3 (0 : Int32) ((upM M_3 0 24 (-1 : Int32)) 17 (Int32.toNatClampNeg x1)) (upM M_3 0 24 (-1 : Int32)))
theorem calX9_goes : Cal yX9_goes cX9_goes 6 (some .int) 2 := ⟨(mU4 24 rfl rfl), (mU1 10 rfl rfl), by decide +kernel⟩
theorem cavX9_goes : CalV yX9_goes := ⟨(mU4 23 rfl rfl), (mS2 9 rfl)⟩
set_option maxHeartbeats 4000000 in
set_option maxRecDepth 100000 in
theorem kX9_goes_84 {p : Program} {l : Launch} {e : Env} {s : State} {m : MethodId} {args : Array Value} {below : List Frame} {meth : Method} {c : Code} {D : va_G} {cI cZ : ClassId} {a : Nat → Nat} {A : Nat → Prop} {r : Int32} {M' : Mem} (C : Cx p s m args meth c cX9_goes 6 RX9 (some .int) D cI cZ A) (K23 : Int32 → Int32 → Int32 → Int32 → Int32 → Mem → Res) (hK23 : ∀ (x1 x2 x3 x4 x5 : Int32) (M : Mem) (H : Heap) (locs : List Loc) (ls : Array Slot), K23 x1 x2 x3 x4 x5 M = some (r, M') → St D (wM cI cZ a) A s.heap H locs M → lv_has ls 6 [(0, .ref (a 0)), (1, .int x1), (2, .int x2), (3, .int x3), (4, .int x4), (5, .int x5)] → Wi p l e { frames := 3, cells := 0, slots := 0, locals := 73 } s m args below meth c D (wM cI cZ a) A r M' H locs (F0 m 23 ls [])) (x1 x2 x3 x4 x5 : Int32) (M : Mem) (H : Heap) (locs : List Loc) (ls : Array Slot) (hf : gX9_goes_84 K23 x1 x2 x3 x4 x5 M = some (r, M')) (hst : St D (wM cI cZ a) A s.heap H locs M) (hl : lv_has ls 6 [(0, .ref (a 0)), (1, .int x1), (2, .int x2), (3, .int x3), (4, .int x4), (5, .int x5)]) : Wi p l e { frames := 3, cells := 0, slots := 0, locals := 73 } s m args below meth c D (wM cI cZ a) A r M' H locs (F0 m 84 ls []) := by
  unfold gX9_goes_84 at hf
  obtain ⟨hx, hb, hml, hown, hU, hr, hlk, hK, hA⟩ := id C
  refine lv_iinc (v := (x5 + 1)) (lv' := [(5, .int (x5 + 1)), (0, .ref (a 0)), (1, .int x1), (2, .int x2), (3, .int x3), (4, .int x4)]) hx hb dX9_goes_84 hl (k := 5) rfl rfl (by decide) rfl (fun ls hl => ?_)
  refine lv_goto (tgt := 23) hx hb dX9_goes_87 (by decide) ?_
  exact hK23 x1 x2 x3 x4 (x5 + 1) M _ _ _ hf hst (lv_sub hl [1, 2, 3, 4, 5, 0] rfl)
set_option maxHeartbeats 4000000 in
set_option maxRecDepth 100000 in
theorem kX9_goes_56 {p : Program} {l : Launch} {e : Env} {s : State} {m : MethodId} {args : Array Value} {below : List Frame} {meth : Method} {c : Code} {D : va_G} {cI cZ : ClassId} {a : Nat → Nat} {A : Nat → Prop} {r : Int32} {M' : Mem} (C : Cx p s m args meth c cX9_goes 6 RX9 (some .int) D cI cZ A) (K23 : Int32 → Int32 → Int32 → Int32 → Int32 → Mem → Res) (hK23 : ∀ (x1 x2 x3 x4 x5 : Int32) (M : Mem) (H : Heap) (locs : List Loc) (ls : Array Slot), K23 x1 x2 x3 x4 x5 M = some (r, M') → St D (wM cI cZ a) A s.heap H locs M → lv_has ls 6 [(0, .ref (a 0)), (1, .int x1), (2, .int x2), (3, .int x3), (4, .int x4), (5, .int x5)] → Wi p l e { frames := 3, cells := 0, slots := 0, locals := 73 } s m args below meth c D (wM cI cZ a) A r M' H locs (F0 m 23 ls [])) (x1 x2 x3 x4 x5 z0 z1 : Int32) (M : Mem) (H : Heap) (locs : List Loc) (ls : Array Slot) (hf : gX9_goes_56 K23 x1 x2 x3 x4 x5 z0 z1 M = some (r, M')) (hst : St D (wM cI cZ a) A s.heap H locs M) (hl : lv_has ls 6 [(0, .ref (a 0)), (1, .int x1), (2, .int x2), (3, .int x3), (4, .int x4), (5, .int x5)]) : Wi p l e { frames := 3, cells := 0, slots := 0, locals := 73 } s m args below meth c D (wM cI cZ a) A r M' H locs (F0 m 56 ls [.int z1, .int z0]) := by
  unfold gX9_goes_56 at hf
  obtain ⟨hx, hb, hml, hown, hU, hr, hlk, hK, hA⟩ := id C
  refine lv_iadd hx hb dX9_goes_56 ?_
  refine lv_istore (lv' := [(4, .int (z0 + z1)), (0, .ref (a 0)), (1, .int x1), (2, .int x2), (3, .int x3), (5, .int x5)]) hx hb dX9_goes_57 hl (by decide) rfl (fun ls hl => ?_)
  refine lv_aload_n hx hb dX9_goes_59 rfl (lv_at hl 1 rfl) ?_
  refine gf_X9_152 C hst dX9_goes_60 ?_
  refine lv_iconst (v := -1) hx hb dX9_goes_63 (by decide) ?_
  refine lv_icmp_ne (tgt := 84) hx hb dX9_goes_64 (by decide) (fun c_64 => ?_) (fun c_64 => ?_)
  · have hf := ifn c_64 hf
    exact kX9_goes_84 C K23 hK23 x1 x2 x3 (z0 + z1) x5 M _ _ _ hf hst (lv_sub hl [1, 2, 3, 4, 0, 5] rfl)
  · have hf := ifp c_64 hf
    refine lv_iload hx hb dX9_goes_67 (lv_at hl 0 rfl) ?_
    refine lv_aload_n hx hb dX9_goes_69 rfl (lv_at hl 1 rfl) ?_
    refine gf_X9_60 C hst dX9_goes_70 ?_
    refine lv_iload_n hx hb dX9_goes_73 rfl (lv_at hl 2 rfl) ?_
    obtain ⟨h_74, hf⟩ := og hf
    refine w_iald (N := 4) (f := M 16) C hst 16 rfl h_74 dX9_goes_74 ?_
    refine lv_icmp_le (tgt := 84) hx hb dX9_goes_75 (by decide) (fun c_75 => ?_) (fun c_75 => ?_)
    · have hf := ifp c_75 hf
      exact kX9_goes_84 C K23 hK23 x1 x2 x3 (z0 + z1) x5 M _ _ _ hf hst (lv_sub hl [1, 2, 3, 4, 0, 5] rfl)
    · have hf := ifn c_75 hf
      refine lv_aload_n hx hb dX9_goes_78 rfl (lv_at hl 1 rfl) ?_
      refine lv_iload hx hb dX9_goes_79 (lv_at hl 5 rfl) ?_
      refine pf_X9_152 C hst dX9_goes_81 (fun H locs hst => ?_)
      exact kX9_goes_84 C K23 hK23 x1 x2 x3 (z0 + z1) x5 (upM M 0 24 x5) _ _ _ hf hst (lv_sub hl [1, 2, 3, 4, 0, 5] rfl)
set_option maxHeartbeats 4000000 in
set_option maxRecDepth 100000 in
theorem kX9_goes_23 {p : Program} {l : Launch} {e : Env} {s : State} {m : MethodId} {args : Array Value} {below : List Frame} {meth : Method} {c : Code} {D : va_G} {cI cZ : ClassId} {a : Nat → Nat} {A : Nat → Prop} {r : Int32} {M' : Mem} (C : Cx p s m args meth c cX9_goes 6 RX9 (some .int) D cI cZ A) (K23 : Int32 → Int32 → Int32 → Int32 → Int32 → Mem → Res) (hK23 : ∀ (x1 x2 x3 x4 x5 : Int32) (M : Mem) (H : Heap) (locs : List Loc) (ls : Array Slot), K23 x1 x2 x3 x4 x5 M = some (r, M') → St D (wM cI cZ a) A s.heap H locs M → lv_has ls 6 [(0, .ref (a 0)), (1, .int x1), (2, .int x2), (3, .int x3), (4, .int x4), (5, .int x5)] → Wi p l e { frames := 3, cells := 0, slots := 0, locals := 73 } s m args below meth c D (wM cI cZ a) A r M' H locs (F0 m 23 ls [])) (x1 x2 x3 x4 x5 : Int32) (M : Mem) (H : Heap) (locs : List Loc) (ls : Array Slot) (hf : gX9_goes_23 K23 x1 x2 x3 x4 x5 M = some (r, M')) (hst : St D (wM cI cZ a) A s.heap H locs M) (hl : lv_has ls 6 [(0, .ref (a 0)), (1, .int x1), (2, .int x2), (3, .int x3), (4, .int x4), (5, .int x5)]) : Wi p l e { frames := 3, cells := 0, slots := 0, locals := 73 } s m args below meth c D (wM cI cZ a) A r M' H locs (F0 m 23 ls []) := by
  unfold gX9_goes_23 at hf
  obtain ⟨hx, hb, hml, hown, hU, hr, hlk, hK, hA⟩ := id C
  refine lv_iload hx hb dX9_goes_23 (lv_at hl 5 rfl) ?_
  refine lv_aload_n hx hb dX9_goes_25 rfl (lv_at hl 0 rfl) ?_
  refine gf_X9_66 C hst dX9_goes_26 ?_
  refine lv_iload_n hx hb dX9_goes_29 rfl (lv_at hl 1 rfl) ?_
  obtain ⟨h_30, hf⟩ := og hf
  refine w_iald (N := 4) (f := M 18) C hst 18 rfl h_30 dX9_goes_30 ?_
  refine lv_icmp_ge (tgt := 90) hx hb dX9_goes_31 (by decide) (fun c_31 => ?_) (fun c_31 => ?_)
  · have hf := ifp c_31 hf
    refine lv_iload hx hb dX9_goes_90 (lv_at hl 4 rfl) ?_
    obtain ⟨e1, e2⟩ := sinj hf
    subst e1
    subst e2
    exact w_iret C hst dX9_goes_92
  · have hf := ifn c_31 hf
    refine lv_iload hx hb dX9_goes_34 (lv_at hl 4 rfl) ?_
    refine lv_iload hx hb dX9_goes_36 (lv_at hl 5 rfl) ?_
    refine lv_aload_n hx hb dX9_goes_38 rfl (lv_at hl 0 rfl) ?_
    refine gf_X9_83 C hst dX9_goes_39 ?_
    refine lv_icmp_gt (tgt := 55) hx hb dX9_goes_42 (by decide) (fun c_42 => ?_) (fun c_42 => ?_)
    · have hf := ifp c_42 hf
      refine lv_iload_n hx hb dX9_goes_55 rfl (lv_at hl 3 rfl) ?_
      exact kX9_goes_56 C K23 hK23 x1 x2 x3 x4 x5 x4 x3 M _ _ _ hf hst (lv_sub hl [0, 1, 2, 3, 4, 5] rfl)
    · have hf := ifn c_42 hf
      refine lv_aload_n hx hb dX9_goes_45 rfl (lv_at hl 0 rfl) ?_
      refine lv_iload_n hx hb dX9_goes_46 rfl (lv_at hl 1 rfl) ?_
      refine lv_iload hx hb dX9_goes_47 (lv_at hl 5 rfl) ?_
      obtain ⟨r_49, M_49, hc_49, hf⟩ := obi_some hf
      refine w_cVi (As := [.int x1, .int x5]) (rest := [.int x4]) C (wM_ad cI cZ a) (mX9_laidIn l D cI cZ a x1 x5 M r_49 M_49 hc_49) calX9_laidIn cavX9_laidIn (mU4 4 rfl rfl) hst hl.1 0 9 rfl rfl rfl rfl (Nat.le_of_ble_eq_true rfl) ⟨Nat.le_of_ble_eq_true rfl, Nat.le_of_ble_eq_true rfl⟩ dX9_goes_49 (fun H locs hst => ?_)
      refine lv_goto (tgt := 56) hx hb dX9_goes_52 (by decide) ?_
      exact kX9_goes_56 C K23 hK23 x1 x2 x3 x4 x5 x4 r_49 M_49 _ _ _ hf hst (lv_sub hl [0, 1, 2, 3, 4, 5] rfl)
theorem tX9_goes_23 {p : Program} {l : Launch} {e : Env} {s : State} {m : MethodId} {args : Array Value} {below : List Frame} {meth : Method} {c : Code} {D : va_G} {cI cZ : ClassId} {a : Nat → Nat} {A : Nat → Prop} {r : Int32} {M' : Mem} (C : Cx p s m args meth c cX9_goes 6 RX9 (some .int) D cI cZ A)  : ∀ (n : Nat) (x1 x2 x3 x4 x5 : Int32) (M : Mem) (H : Heap) (locs : List Loc) (ls : Array Slot), lX9_goes_23 n x1 x2 x3 x4 x5 M = some (r, M') → St D (wM cI cZ a) A s.heap H locs M → lv_has ls 6 [(0, .ref (a 0)), (1, .int x1), (2, .int x2), (3, .int x3), (4, .int x4), (5, .int x5)] → Wi p l e { frames := 3, cells := 0, slots := 0, locals := 73 } s m args below meth c D (wM cI cZ a) A r M' H locs (F0 m 23 ls []) := by
  intro n
  induction n with
  | zero =>
    intro x1 x2 x3 x4 x5 M H locs ls hf
    exact nomatch (show (none : Res) = some (r, M') from hf)
  | succ n ih =>
    intro x1 x2 x3 x4 x5 M H locs ls hf hst hl
    exact kX9_goes_23 C (lX9_goes_23 n) ih x1 x2 x3 x4 x5 M H locs ls hf hst hl

set_option maxHeartbeats 4000000 in
set_option maxRecDepth 100000 in
theorem kX9_goes_0 {p : Program} {l : Launch} {e : Env} {s : State} {m : MethodId} {args : Array Value} {below : List Frame} {meth : Method} {c : Code} {D : va_G} {cI cZ : ClassId} {a : Nat → Nat} {A : Nat → Prop} {r : Int32} {M' : Mem} (C : Cx p s m args meth c cX9_goes 6 RX9 (some .int) D cI cZ A)  (x1 x2 : Int32) (M : Mem) (H : Heap) (locs : List Loc) (ls : Array Slot) (hf : fX9_goes x1 x2 M = some (r, M')) (hst : St D (wM cI cZ a) A s.heap H locs M) (hl : lv_has ls 6 [(0, .ref (a 0)), (1, .int x1), (2, .int x2)]) : Wi p l e { frames := 3, cells := 0, slots := 0, locals := 73 } s m args below meth c D (wM cI cZ a) A r M' H locs (F0 m 0 ls []) := by
  unfold fX9_goes at hf
  obtain ⟨hx, hb, hml, hown, hU, hr, hlk, hK, hA⟩ := id C
  refine lv_aload_n hx hb dX9_goes_0 rfl (lv_at hl 0 rfl) ?_
  refine lv_iload_n hx hb dX9_goes_1 rfl (lv_at hl 1 rfl) ?_
  refine lv_iload_n hx hb dX9_goes_2 rfl (lv_at hl 2 rfl) ?_
  obtain ⟨r_3, M_3, hc_3, hf⟩ := obi_some hf
  refine w_cVi (As := [.int x1, .int x2]) (rest := []) C (wM_ad cI cZ a) (mX9_foretold l D cI cZ a x1 x2 M r_3 M_3 hc_3) calX9_foretold cavX9_foretold (mU4 25 rfl rfl) hst hl.1 0 9 rfl rfl rfl rfl (Nat.le_of_ble_eq_true rfl) ⟨Nat.le_of_ble_eq_true rfl, Nat.le_of_ble_eq_true rfl⟩ dX9_goes_3 (fun H locs hst => ?_)
  refine lv_istore_n (lv' := [(3, .int r_3), (0, .ref (a 0)), (1, .int x1), (2, .int x2)]) hx hb dX9_goes_6 rfl hl (by decide) rfl (fun ls hl => ?_)
  refine lv_iconst (v := 0) hx hb dX9_goes_7 (by decide) ?_
  refine lv_istore (lv' := [(4, .int (0 : Int32)), (3, .int r_3), (0, .ref (a 0)), (1, .int x1), (2, .int x2)]) hx hb dX9_goes_8 hl (by decide) rfl (fun ls hl => ?_)
  refine lv_aload_n hx hb dX9_goes_10 rfl (lv_at hl 2 rfl) ?_
  refine lv_iconst (v := -1) hx hb dX9_goes_11 (by decide) ?_
  refine pf_X9_152 C hst dX9_goes_12 (fun H locs hst => ?_)
  refine lv_aload_n hx hb dX9_goes_15 rfl (lv_at hl 2 rfl) ?_
  refine gf_X9_63 C hst dX9_goes_16 ?_
  refine lv_iload_n hx hb dX9_goes_19 rfl (lv_at hl 3 rfl) ?_
  obtain ⟨h_20, hf⟩ := og hf
  refine w_iald (N := 4) (f := (upM M_3 0 24 (-1 : Int32)) 17) C hst 17 rfl h_20 dX9_goes_20 ?_
  refine lv_istore (lv' := [(5, .int ((upM M_3 0 24 (-1 : Int32)) 17 (Int32.toNatClampNeg x1))), (4, .int (0 : Int32)), (3, .int r_3), (0, .ref (a 0)), (1, .int x1), (2, .int x2)]) hx hb dX9_goes_21 hl (by decide) rfl (fun ls hl => ?_)
  exact tX9_goes_23 C  fu x1 x2 r_3 (0 : Int32) ((upM M_3 0 24 (-1 : Int32)) 17 (Int32.toNatClampNeg x1)) (upM M_3 0 24 (-1 : Int32)) _ _ _ hf hst (lv_sub hl [3, 4, 5, 2, 1, 0] rfl)
set_option maxRecDepth 100000 in
theorem mX9_goes (l : Launch) (D : va_G) (cI cZ : ClassId) (a : Nat → Nat) (x1 x2 : Int32) (M : Mem) (r : Int32) (M' : Mem) (hf : fX9_goes x1 x2 M = some (r, M')) : MI l D cI cZ (wM cI cZ a) yX9_goes cX9_goes 6 (some .int) 3 73 [.ref (a 0), .int x1, .int x2] M r M' :=
  MI.of (by decide) (Nat.le_of_ble_eq_true rfl) (fun p e s m args below meth c A C hst ls hl => kX9_goes_0 C x1 x2 M s.heap [] ls hf hst hl)

def gX9_budgeted_112 (x1 x2 z1 z2 : Int32) (M : Mem) : Res :=
  obi (fX9_goes z1 z2 M) (fun r_112 M_112 => (if (4 : Int32) ≤ x2 then some (r_112, M_112) else some ((M_112 0 24), M_112)))
def gX9_budgeted_94 (x1 x2 z1 z2 z3 : Int32) (M : Mem) : Res :=
  obi (fX9_laidOf z1 z2 z3 M) (fun r_94 M_94 => some (r_94, M_94))
def gX9_budgeted_64 (x1 x2 z1 z2 : Int32) (M : Mem) : Res :=
  if x1 < 0 ∨ 4 ≤ Int32.toNatClampNeg x1 then none else (if ((M 0 0) + (1 : Int32)) ≤ (M 18 (Int32.toNatClampNeg x1)) then gX9_budgeted_94  x1 x2 z1 z2 ((M 0 0) + (1 : Int32)) M else gX9_budgeted_94  x1 x2 z1 z2 (M 18 (Int32.toNatClampNeg x1)) M)
def fX9_budgeted (x1 x2 : Int32) (M : Mem) : Res :=
  obi (fX9_isOwner x1 M) (fun r_1 M_1 => (if r_1 = 0 then some ((-1 : Int32), M_1) else obi (fX9_isIn x2 (0 : Int32) (5 : Int32) M_1) (fun r_10 M_10 => (if r_10 = 0 then some ((-1 : Int32), M_10) else (if x2 = 0 then if x1 < 0 ∨ 4 ≤ Int32.toNatClampNeg x1 then none else some ((M_10 16 (Int32.toNatClampNeg x1)), M_10) else (if x2 = (1 : Int32) then if x1 < 0 ∨ 4 ≤ Int32.toNatClampNeg x1 then none else (if (M_10 0 0) < (M_10 17 (Int32.toNatClampNeg x1)) then gX9_budgeted_64  x1 x2 x1 ((M_10 0 0) + (1 : Int32)) M_10 else gX9_budgeted_64  x1 x2 x1 (M_10 17 (Int32.toNatClampNeg x1)) M_10) else (if (x2 - (x2 / (2 : Int32)) * (2 : Int32)) = (1 : Int32) then gX9_budgeted_112  x1 x2 x1 (1 : Int32) M_10 else gX9_budgeted_112  x1 x2 x1 (0 : Int32) M_10)))))))
theorem calX9_budgeted : Cal yX9_budgeted cX9_budgeted 4 (some .int) 2 := ⟨(mU4 20 rfl rfl), (mU1 10 rfl rfl), by decide +kernel⟩
theorem cavX9_budgeted : CalV yX9_budgeted := ⟨(mU4 18 rfl rfl), (mU4 19 rfl rfl)⟩
set_option maxHeartbeats 4000000 in
set_option maxRecDepth 100000 in
theorem kX9_budgeted_112 {p : Program} {l : Launch} {e : Env} {s : State} {m : MethodId} {args : Array Value} {below : List Frame} {meth : Method} {c : Code} {D : va_G} {cI cZ : ClassId} {a : Nat → Nat} {A : Nat → Prop} {r : Int32} {M' : Mem} (C : Cx p s m args meth c cX9_budgeted 4 RX9 (some .int) D cI cZ A)  (x1 x2 z1 z2 : Int32) (M : Mem) (H : Heap) (locs : List Loc) (ls : Array Slot) (hf : gX9_budgeted_112 x1 x2 z1 z2 M = some (r, M')) (hst : St D (wM cI cZ a) A s.heap H locs M) (hl : lv_has ls 4 [(0, .ref (a 0)), (1, .int x1), (2, .int x2)]) : Wi p l e { frames := 4, cells := 0, slots := 0, locals := 98 } s m args below meth c D (wM cI cZ a) A r M' H locs (F0 m 112 ls [.int z2, .int z1, .ref (a 0)]) := by
  unfold gX9_budgeted_112 at hf
  obtain ⟨hx, hb, hml, hown, hU, hr, hlk, hK, hA⟩ := id C
  obtain ⟨r_112, M_112, hc_112, hf⟩ := obi_some hf
  refine w_cVi (As := [.int z1, .int z2]) (rest := []) C (wM_ad cI cZ a) (mX9_goes l D cI cZ a z1 z2 M r_112 M_112 hc_112) calX9_goes cavX9_goes (mU4 21 rfl rfl) hst hl.1 0 9 rfl rfl rfl rfl (Nat.le_of_ble_eq_true rfl) ⟨Nat.le_of_ble_eq_true rfl, Nat.le_of_ble_eq_true rfl⟩ dX9_budgeted_112 (fun H locs hst => ?_)
  refine lv_istore_n (lv' := [(3, .int r_112), (0, .ref (a 0)), (1, .int x1), (2, .int x2)]) hx hb dX9_budgeted_115 rfl hl (by decide) rfl (fun ls hl => ?_)
  refine lv_iload_n hx hb dX9_budgeted_116 rfl (lv_at hl 3 rfl) ?_
  refine lv_iconst (v := 4) hx hb dX9_budgeted_117 (by decide) ?_
  refine lv_icmp_ge (tgt := 128) hx hb dX9_budgeted_118 (by decide) (fun c_118 => ?_) (fun c_118 => ?_)
  · have hf := ifp c_118 hf
    refine lv_iload_n hx hb dX9_budgeted_128 rfl (lv_at hl 0 rfl) ?_
    obtain ⟨e1, e2⟩ := sinj hf
    subst e1
    subst e2
    exact w_iret C hst dX9_budgeted_129
  · have hf := ifn c_118 hf
    refine lv_aload_n hx hb dX9_budgeted_121 rfl (lv_at hl 1 rfl) ?_
    refine gf_X9_152 C hst dX9_budgeted_122 ?_
    refine lv_goto (tgt := 129) hx hb dX9_budgeted_125 (by decide) ?_
    obtain ⟨e1, e2⟩ := sinj hf
    subst e1
    subst e2
    exact w_iret C hst dX9_budgeted_129
set_option maxHeartbeats 4000000 in
set_option maxRecDepth 100000 in
theorem kX9_budgeted_94 {p : Program} {l : Launch} {e : Env} {s : State} {m : MethodId} {args : Array Value} {below : List Frame} {meth : Method} {c : Code} {D : va_G} {cI cZ : ClassId} {a : Nat → Nat} {A : Nat → Prop} {r : Int32} {M' : Mem} (C : Cx p s m args meth c cX9_budgeted 4 RX9 (some .int) D cI cZ A)  (x1 x2 z1 z2 z3 : Int32) (M : Mem) (H : Heap) (locs : List Loc) (ls : Array Slot) (hf : gX9_budgeted_94 x1 x2 z1 z2 z3 M = some (r, M')) (hst : St D (wM cI cZ a) A s.heap H locs M) (hl : lv_has ls 4 [(0, .ref (a 0)), (1, .int x1), (2, .int x2)]) : Wi p l e { frames := 4, cells := 0, slots := 0, locals := 98 } s m args below meth c D (wM cI cZ a) A r M' H locs (F0 m 94 ls [.int z3, .int z2, .int z1, .ref (a 0)]) := by
  unfold gX9_budgeted_94 at hf
  obtain ⟨hx, hb, hml, hown, hU, hr, hlk, hK, hA⟩ := id C
  obtain ⟨r_94, M_94, hc_94, hf⟩ := obi_some hf
  refine w_cVi (As := [.int z1, .int z2, .int z3]) (rest := []) C (wM_ad cI cZ a) (mX9_laidOf l D cI cZ a z1 z2 z3 M r_94 M_94 hc_94) calX9_laidOf cavX9_laidOf (mU4 0 rfl rfl) hst hl.1 0 9 rfl rfl rfl rfl (Nat.le_of_ble_eq_true rfl) ⟨Nat.le_of_ble_eq_true rfl, Nat.le_of_ble_eq_true rfl⟩ dX9_budgeted_94 (fun H locs hst => ?_)
  obtain ⟨e1, e2⟩ := sinj hf
  subst e1
  subst e2
  exact w_iret C hst dX9_budgeted_97
set_option maxHeartbeats 4000000 in
set_option maxRecDepth 100000 in
theorem kX9_budgeted_64 {p : Program} {l : Launch} {e : Env} {s : State} {m : MethodId} {args : Array Value} {below : List Frame} {meth : Method} {c : Code} {D : va_G} {cI cZ : ClassId} {a : Nat → Nat} {A : Nat → Prop} {r : Int32} {M' : Mem} (C : Cx p s m args meth c cX9_budgeted 4 RX9 (some .int) D cI cZ A)  (x1 x2 z1 z2 : Int32) (M : Mem) (H : Heap) (locs : List Loc) (ls : Array Slot) (hf : gX9_budgeted_64 x1 x2 z1 z2 M = some (r, M')) (hst : St D (wM cI cZ a) A s.heap H locs M) (hl : lv_has ls 4 [(0, .ref (a 0)), (1, .int x1), (2, .int x2)]) : Wi p l e { frames := 4, cells := 0, slots := 0, locals := 98 } s m args below meth c D (wM cI cZ a) A r M' H locs (F0 m 64 ls [.int z2, .int z1, .ref (a 0)]) := by
  unfold gX9_budgeted_64 at hf
  obtain ⟨hx, hb, hml, hown, hU, hr, hlk, hK, hA⟩ := id C
  refine lv_aload_n hx hb dX9_budgeted_64 rfl (lv_at hl 0 rfl) ?_
  refine gf_X9_66 C hst dX9_budgeted_65 ?_
  refine lv_iload_n hx hb dX9_budgeted_68 rfl (lv_at hl 1 rfl) ?_
  obtain ⟨h_69, hf⟩ := og hf
  refine w_iald (N := 4) (f := M 18) C hst 18 rfl h_69 dX9_budgeted_69 ?_
  refine lv_aload_n hx hb dX9_budgeted_70 rfl (lv_at hl 0 rfl) ?_
  refine gf_X9_83 C hst dX9_budgeted_71 ?_
  refine lv_iconst (v := 1) hx hb dX9_budgeted_74 (by decide) ?_
  refine lv_iadd hx hb dX9_budgeted_75 ?_
  refine lv_icmp_ge (tgt := 88) hx hb dX9_budgeted_76 (by decide) (fun c_76 => ?_) (fun c_76 => ?_)
  · have hf := ifp c_76 hf
    refine lv_aload_n hx hb dX9_budgeted_88 rfl (lv_at hl 0 rfl) ?_
    refine gf_X9_83 C hst dX9_budgeted_89 ?_
    refine lv_iconst (v := 1) hx hb dX9_budgeted_92 (by decide) ?_
    refine lv_iadd hx hb dX9_budgeted_93 ?_
    exact kX9_budgeted_94 C  x1 x2 z1 z2 ((M 0 0) + (1 : Int32)) M _ _ _ hf hst (lv_sub hl [0, 1, 2] rfl)
  · have hf := ifn c_76 hf
    refine lv_aload_n hx hb dX9_budgeted_79 rfl (lv_at hl 0 rfl) ?_
    refine gf_X9_66 C hst dX9_budgeted_80 ?_
    refine lv_iload_n hx hb dX9_budgeted_83 rfl (lv_at hl 1 rfl) ?_
    refine w_iald (N := 4) (f := M 18) C hst 18 rfl h_69 dX9_budgeted_84 ?_
    refine lv_goto (tgt := 94) hx hb dX9_budgeted_85 (by decide) ?_
    exact kX9_budgeted_94 C  x1 x2 z1 z2 (M 18 (Int32.toNatClampNeg x1)) M _ _ _ hf hst (lv_sub hl [0, 1, 2] rfl)
set_option maxHeartbeats 4000000 in
set_option maxRecDepth 100000 in
theorem kX9_budgeted_0 {p : Program} {l : Launch} {e : Env} {s : State} {m : MethodId} {args : Array Value} {below : List Frame} {meth : Method} {c : Code} {D : va_G} {cI cZ : ClassId} {a : Nat → Nat} {A : Nat → Prop} {r : Int32} {M' : Mem} (C : Cx p s m args meth c cX9_budgeted 4 RX9 (some .int) D cI cZ A)  (x1 x2 : Int32) (M : Mem) (H : Heap) (locs : List Loc) (ls : Array Slot) (hf : fX9_budgeted x1 x2 M = some (r, M')) (hst : St D (wM cI cZ a) A s.heap H locs M) (hl : lv_has ls 4 [(0, .ref (a 0)), (1, .int x1), (2, .int x2)]) : Wi p l e { frames := 4, cells := 0, slots := 0, locals := 98 } s m args below meth c D (wM cI cZ a) A r M' H locs (F0 m 0 ls []) := by
  unfold fX9_budgeted at hf
  obtain ⟨hx, hb, hml, hown, hU, hr, hlk, hK, hA⟩ := id C
  refine lv_iload_n hx hb dX9_budgeted_0 rfl (lv_at hl 1 rfl) ?_
  obtain ⟨r_1, M_1, hc_1, hf⟩ := obi_some hf
  refine w_cSi (As := [.int x1]) (rest := []) C (wM_ad cI cZ a) (mX9_isOwner l D cI cZ a x1 M r_1 M_1 hc_1) calX9_isOwner casX9_isOwner (mU3 138 rfl rfl) hst hl.1 rfl rfl (Nat.le_of_ble_eq_true rfl) ⟨Nat.le_of_ble_eq_true rfl, Nat.le_of_ble_eq_true rfl⟩ dX9_budgeted_1 (fun H locs hst => ?_)
  refine lv_if_eq (tgt := 16) hx hb dX9_budgeted_4 (by decide) (fun c_4 => ?_) (fun c_4 => ?_)
  · have hf := ifp c_4 hf
    refine lv_iconst (v := -1) hx hb dX9_budgeted_16 (by decide) ?_
    obtain ⟨e1, e2⟩ := sinj hf
    subst e1
    subst e2
    exact w_iret C hst dX9_budgeted_17
  · have hf := ifn c_4 hf
    refine lv_iload_n hx hb dX9_budgeted_7 rfl (lv_at hl 2 rfl) ?_
    refine lv_iconst (v := 0) hx hb dX9_budgeted_8 (by decide) ?_
    refine lv_iconst (v := 5) hx hb dX9_budgeted_9 (by decide) ?_
    obtain ⟨r_10, M_10, hc_10, hf⟩ := obi_some hf
    refine w_cSi (As := [.int x2, .int (0 : Int32), .int (5 : Int32)]) (rest := []) C (wM_ad cI cZ a) (mX9_isIn l D cI cZ a x2 (0 : Int32) (5 : Int32) M_1 r_10 M_10 hc_10) calX9_isIn casX9_isIn (mU3 135 rfl rfl) hst hl.1 rfl rfl (Nat.le_of_ble_eq_true rfl) ⟨Nat.le_of_ble_eq_true rfl, Nat.le_of_ble_eq_true rfl⟩ dX9_budgeted_10 (fun H locs hst => ?_)
    refine lv_if_ne (tgt := 18) hx hb dX9_budgeted_13 (by decide) (fun c_13 => ?_) (fun c_13 => ?_)
    · have hf := ifn c_13 hf
      refine lv_iload_n hx hb dX9_budgeted_18 rfl (lv_at hl 2 rfl) ?_
      refine lv_if_ne (tgt := 29) hx hb dX9_budgeted_19 (by decide) (fun c_19 => ?_) (fun c_19 => ?_)
      · have hf := ifn c_19 hf
        refine lv_iload_n hx hb dX9_budgeted_29 rfl (lv_at hl 2 rfl) ?_
        refine lv_iconst (v := 1) hx hb dX9_budgeted_30 (by decide) ?_
        refine lv_icmp_ne (tgt := 98) hx hb dX9_budgeted_31 (by decide) (fun c_31 => ?_) (fun c_31 => ?_)
        · have hf := ifn c_31 hf
          refine lv_aload_n hx hb dX9_budgeted_98 rfl (lv_at hl 0 rfl) ?_
          refine lv_iload_n hx hb dX9_budgeted_99 rfl (lv_at hl 1 rfl) ?_
          refine lv_iload_n hx hb dX9_budgeted_100 rfl (lv_at hl 2 rfl) ?_
          refine lv_iconst (v := 2) hx hb dX9_budgeted_101 (by decide) ?_
          refine lv_irem hx hb dX9_budgeted_102 (by decide) ?_
          refine lv_iconst (v := 1) hx hb dX9_budgeted_103 (by decide) ?_
          refine lv_icmp_ne (tgt := 111) hx hb dX9_budgeted_104 (by decide) (fun c_104 => ?_) (fun c_104 => ?_)
          · have hf := ifn c_104 hf
            refine lv_iconst (v := 0) hx hb dX9_budgeted_111 (by decide) ?_
            exact kX9_budgeted_112 C  x1 x2 x1 (0 : Int32) M_10 _ _ _ hf hst (lv_sub hl [0, 1, 2] rfl)
          · have hf := ifp c_104 hf
            refine lv_iconst (v := 1) hx hb dX9_budgeted_107 (by decide) ?_
            refine lv_goto (tgt := 112) hx hb dX9_budgeted_108 (by decide) ?_
            exact kX9_budgeted_112 C  x1 x2 x1 (1 : Int32) M_10 _ _ _ hf hst (lv_sub hl [0, 1, 2] rfl)
        · have hf := ifp c_31 hf
          refine lv_aload_n hx hb dX9_budgeted_34 rfl (lv_at hl 0 rfl) ?_
          refine lv_iload_n hx hb dX9_budgeted_35 rfl (lv_at hl 1 rfl) ?_
          refine lv_aload_n hx hb dX9_budgeted_36 rfl (lv_at hl 0 rfl) ?_
          refine gf_X9_63 C hst dX9_budgeted_37 ?_
          refine lv_iload_n hx hb dX9_budgeted_40 rfl (lv_at hl 1 rfl) ?_
          obtain ⟨h_41, hf⟩ := og hf
          refine w_iald (N := 4) (f := M_10 17) C hst 17 rfl h_41 dX9_budgeted_41 ?_
          refine lv_aload_n hx hb dX9_budgeted_42 rfl (lv_at hl 0 rfl) ?_
          refine gf_X9_83 C hst dX9_budgeted_43 ?_
          refine lv_icmp_gt (tgt := 58) hx hb dX9_budgeted_46 (by decide) (fun c_46 => ?_) (fun c_46 => ?_)
          · have hf := ifp c_46 hf
            refine lv_aload_n hx hb dX9_budgeted_58 rfl (lv_at hl 0 rfl) ?_
            refine gf_X9_83 C hst dX9_budgeted_59 ?_
            refine lv_iconst (v := 1) hx hb dX9_budgeted_62 (by decide) ?_
            refine lv_iadd hx hb dX9_budgeted_63 ?_
            exact kX9_budgeted_64 C  x1 x2 x1 ((M_10 0 0) + (1 : Int32)) M_10 _ _ _ hf hst (lv_sub hl [0, 1, 2] rfl)
          · have hf := ifn c_46 hf
            refine lv_aload_n hx hb dX9_budgeted_49 rfl (lv_at hl 0 rfl) ?_
            refine gf_X9_63 C hst dX9_budgeted_50 ?_
            refine lv_iload_n hx hb dX9_budgeted_53 rfl (lv_at hl 1 rfl) ?_
            refine w_iald (N := 4) (f := M_10 17) C hst 17 rfl h_41 dX9_budgeted_54 ?_
            refine lv_goto (tgt := 64) hx hb dX9_budgeted_55 (by decide) ?_
            exact kX9_budgeted_64 C  x1 x2 x1 (M_10 17 (Int32.toNatClampNeg x1)) M_10 _ _ _ hf hst (lv_sub hl [0, 1, 2] rfl)
      · have hf := ifp c_19 hf
        refine lv_aload_n hx hb dX9_budgeted_22 rfl (lv_at hl 0 rfl) ?_
        refine gf_X9_60 C hst dX9_budgeted_23 ?_
        refine lv_iload_n hx hb dX9_budgeted_26 rfl (lv_at hl 1 rfl) ?_
        obtain ⟨h_27, hf⟩ := og hf
        refine w_iald (N := 4) (f := M_10 16) C hst 16 rfl h_27 dX9_budgeted_27 ?_
        obtain ⟨e1, e2⟩ := sinj hf
        subst e1
        subst e2
        exact w_iret C hst dX9_budgeted_28
    · have hf := ifp c_13 hf
      refine lv_iconst (v := -1) hx hb dX9_budgeted_16 (by decide) ?_
      obtain ⟨e1, e2⟩ := sinj hf
      subst e1
      subst e2
      exact w_iret C hst dX9_budgeted_17
set_option maxRecDepth 100000 in
theorem mX9_budgeted (l : Launch) (D : va_G) (cI cZ : ClassId) (a : Nat → Nat) (x1 x2 : Int32) (M : Mem) (r : Int32) (M' : Mem) (hf : fX9_budgeted x1 x2 M = some (r, M')) : MI l D cI cZ (wM cI cZ a) yX9_budgeted cX9_budgeted 4 (some .int) 4 98 [.ref (a 0), .int x1, .int x2] M r M' :=
  MI.of (by decide) (Nat.le_of_ble_eq_true rfl) (fun p e s m args below meth c A C hst ls hl => kX9_budgeted_0 C x1 x2 M s.heap [] ls hf hst hl)


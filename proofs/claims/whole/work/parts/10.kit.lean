/-! the memory of a system whose cells stay where they were made: cell, place, number -/
abbrev Mem : Type := Nat → Nat → Int32
def upM (M : Mem) (k j : Nat) (x : Int32) : Mem := fun b => if b = k then upd (M b) j x else M b
abbrev Res : Type := Option (Int32 × Mem)
def obi (o : Res) (k : Int32 → Mem → Res) : Res := match o with
  | none => none
  | some q => k q.1 q.2
theorem obi_some {o : Res} {k : Int32 → Mem → Res} {x : Int32 × Mem} (h : obi o k = some x) : ∃ (r : Int32) (M : Mem), o = some (r, M) ∧ k r M = some x := by
  cases o with
  | none => cases h
  | some q => exact ⟨q.1, q.2, rfl, h⟩
theorem og {c : Prop} [Decidable c] {a : Res} {x : Int32 × Mem} (h : (if c then none else a) = some x) : ¬ c ∧ a = some x := by
  by_cases hc : c
  · rw [if_pos hc] at h
    cases h
  · rw [if_neg hc] at h
    exact ⟨hc, h⟩
theorem ifp {c : Prop} [Decidable c] {a b x : Res} (hc : c) (h : (if c then a else b) = x) : a = x := by rwa [if_pos hc] at h
theorem ifn {c : Prop} [Decidable c] {a b x : Res} (hc : ¬ c) (h : (if c then a else b) = x) : b = x := by rwa [if_neg hc] at h
theorem sinj {a c : Int32} {b d : Mem} (h : (some (a, b) : Res) = some (c, d)) : a = c ∧ b = d := by
  cases h
  exact ⟨rfl, rfl⟩
theorem ng {r : Int32} (h : ¬ (¬ (r = 0 ∨ r = 1))) : narrow .boolean (.int r) = .int r := by
  rcases Decidable.not_not.mp h with h | h <;> subst h <;> rfl
theorem tsO {x : Int32} (n : Nat) (h : ∀ k, k ≤ n → ¬ x = nI k) : x.toInt < 0 ∨ (n : Int) < x.toInt := by
  by_cases h0 : x.toInt < 0
  · exact Or.inl h0
  · by_cases h1 : (n : Int) < x.toInt
    · exact Or.inr h1
    · exfalso
      have hb : x.toInt < 2 ^ 31 := Int32.toInt_lt x
      refine h x.toInt.toNat (by omega) ?_
      apply Int32.toInt_inj.mp
      rw [nI_toInt (by omega)]
      omega
abbrev tyl (cI cZ : ClassId) : List (ClassId × FieldType) := [(cI, .int), (cZ, .boolean)]
def Cx (p : Program) (s : State) (m : MethodId) (args : Array Value) (meth : Method) (c : Code) (cc : ByteArray) (nL : Nat) (own : String) (ret : Option FieldType) (D : va_G) (cI cZ : ClassId) (A : Nat → Prop) : Prop :=
  p.tables.exec = Jvm.exec ∧ c.code = cc ∧ c.maxLocals = nL ∧ s.vm.findClass own = some m.cls ∧ (∀ w ∈ UU, w.before args s = true) ∧ meth.sig.returnType = ret ∧ meth.locks = false ∧ va_K D vwCl (tyl cI cZ) s ∧ ∀ q : Nat, s.heap.size ≤ q → A q
def St (D : va_G) (w : Mem → va_W) (A : Nat → Prop) (H0 H : Heap) (locs : List Loc) (M : Mem) : Prop := va_P D vwCl (w M) H ∧ va_D A (w M) ∧ va_S A H0 H locs
def QI (D : va_G) (w : Mem → va_W) (r : Int32) (M : Mem) (A : Nat → Prop) : Array Value → State → Outcome → State → Prop := va_Qi (fun r' (_ : Unit) => r' = r) (fun _ t => va_P D vwCl (w M) t.heap) A
def QV (D : va_G) (w : Mem → va_W) (M : Mem) (A : Nat → Prop) : Array Value → State → Outcome → State → Prop := va_Qv (fun (_ : Unit) => True) (fun _ t => va_P D vwCl (w M) t.heap) A
abbrev PR (D : va_G) (cI cZ : ClassId) (w : Mem → va_W) (av : List Value) (M : Mem) (sz : Nat) : Array Value → State → Prop := va_Pc av (fun X => X.heap.size = sz ∧ va_P D vwCl (w M) X.heap ∧ va_K D vwCl (tyl cI cZ) X ∧ va_D (fun _ => True) (w M))
def MI (l : Launch) (D : va_G) (cI cZ : ClassId) (w : Mem → va_W) (y : MethodName) (bytes : ByteArray) (maxL : Nat) (ret : Option FieldType) (fr lo : Nat) (av : List Value) (M : Mem) (r : Int32) (M' : Mem) : Prop :=
  ∀ sz : Nat, Met l y (.code y bytes maxL ret :: UU) { frames := fr, cells := 0, slots := 0, locals := lo } (PR D cI cZ w av M sz) (QI D w r M' (va_A (w M) sz)) 0 0 (va_A (w M) sz)
def MV (l : Launch) (D : va_G) (cI cZ : ClassId) (w : Mem → va_W) (y : MethodName) (bytes : ByteArray) (maxL : Nat) (fr lo : Nat) (av : List Value) (M : Mem) (M' : Mem) : Prop :=
  ∀ sz : Nat, Met l y (.code y bytes maxL none :: UU) { frames := fr, cells := 0, slots := 0, locals := lo } (PR D cI cZ w av M sz) (QV D w M' (va_A (w M) sz)) 0 0 (va_A (w M) sz)
abbrev Wi (p : Program) (l : Launch) (e : Env) (R : Room) (s : State) (m : MethodId) (args : Array Value) (below : List Frame) (meth : Method) (c : Code) (D : va_G) (w : Mem → va_W) (A : Nat → Prop) (r : Int32) (M' : Mem) (H : Heap) (locs : List Loc) (g : JFrame) : Prop :=
  W p l e R s m args below meth c H locs 0 0 (MQ below (QI D w r M' A) args s 0 0 A) g
abbrev Wv (p : Program) (l : Launch) (e : Env) (R : Room) (s : State) (m : MethodId) (args : Array Value) (below : List Frame) (meth : Method) (c : Code) (D : va_G) (w : Mem → va_W) (A : Nat → Prop) (M' : Mem) (H : Heap) (locs : List Loc) (g : JFrame) : Prop :=
  W p l e R s m args below meth c H locs 0 0 (MQ below (QV D w M' A) args s 0 0 A) g
theorem goodU {y : MethodName} {bytes : ByteArray} {maxL : Nat} {ret : Option FieldType} (h : Cond.code y bytes maxL ret ∈ UU) : GoodIn UU (.code y bytes maxL ret :: UU) := by
  intro w hw
  have hm : w ∈ UU := by
    rcases List.mem_cons.mp hw with e | e
    · rw [e]; exact h
    · exact e
  exact ⟨hm, (UU_good w hm)⟩
theorem va_D_ad {A : Nat → Prop} {ws ws' : va_W} (h : va_D A ws) (e : ws.map (fun q => q.1) = ws'.map (fun q => q.1)) : va_D A ws' := by
  have key : ∀ (k : Nat) (q : Nat × va_E), ws'[k]? = some q → ∃ q0 : Nat × va_E, ws[k]? = some q0 ∧ q0.1 = q.1 := by
    intro k q hk
    have h1 : (ws.map (fun q => q.1))[k]? = some q.1 := by rw [e, List.getElem?_map, hk]; rfl
    rw [List.getElem?_map] at h1
    cases h2 : ws[k]? with
    | none => rw [h2] at h1; cases h1
    | some q0 => rw [h2] at h1; exact ⟨q0, rfl, Option.some.inj h1⟩
  refine ⟨fun i j x y hi hj hxy => ?_, fun k q hk => ?_⟩
  · obtain ⟨x0, a1, a2⟩ := key i x hi
    obtain ⟨y0, b1, b2⟩ := key j y hj
    exact h.1 i j x0 y0 a1 b1 (a2.trans (hxy.trans b2.symm))
  · obtain ⟨x0, a1, a2⟩ := key k q hk
    rw [← a2]
    exact h.2 k x0 a1
theorem va_A_to {A : Nat → Prop} {ws : va_W} {H0 H : Heap} {locs : List Loc} (hD : va_D A ws) (hS : va_S A H0 H locs) (hA : ∀ q, H0.size ≤ q → A q) : ∀ q, va_A ws H.size q → A q := by
  intro q h
  rcases h with ⟨k, e, h⟩ | h
  · exact hD.2 k (q, e) h
  · exact hA q (Nat.le_trans hS.1 h)
theorem PR_blind {D : va_G} {cI cZ : ClassId} {w : Mem → va_W} {av : List Value} {M : Mem} {sz : Nat} : FrameBlind (PR D cI cZ w av M sz) := by
  intro a U g mk q
  obtain ⟨q0, q1, qP, qK, qD⟩ := q
  exact ⟨q0, q1, qP, va_K.moved (u := U) (U := U.calling g mk a) (Vm.Alike.refl U.vm) qK, qD⟩
def Cal (y : MethodName) (bytes : ByteArray) (maxL : Nat) (ret : Option FieldType) (n : Nat) : Prop := Cond.code y bytes maxL ret ∈ UU ∧ Cond.initialized y.cls ∈ UU ∧ (y.cls ≠ "java/lang/invoke/MethodHandle" ∧ y.cls ≠ "java/lang/invoke/VarHandle" ∧ (parseMethodDescriptor y.desc).map (fun d => d.parameters.length) = some n)
def CalV (y : MethodName) : Prop := Cond.instanceMethod y ∈ UU ∧ Cond.selects y.cls y y ∈ UU
section KW
variable {p : Program} {l : Launch} {e : Env} {R : Room} {s : State} {m : MethodId} {args : Array Value} {below : List Frame} {meth : Method} {c : Code} {H : Heap} {locs : List Loc} {Q : State → Prop}
variable {cc : ByteArray} {pc nL n : Nat} {ls : Array Slot} {rest st0 : List Value} {D : va_G} {A : Nat → Prop} {b : Nat} {w : Mem → va_W} {own : String} {ret0 : Option FieldType} {cI cZ : ClassId} {M M' : Mem}
theorem w_cb {y : MethodName} {bytes : ByteArray} {maxL : Nat} {ret : Option FieldType} {fr lo index : Nat} (C : Cx p s m args meth c cc nL own ret0 D cI cZ A) (hc : Cal y bytes maxL ret n) (hl : Cond.methodLink own index y ∈ UU) (hR : fr + 1 ≤ R.frames ∧ 8 + (maxL + 11) + lo ≤ R.locals) :
    CallB R s args own index y bytes maxL ret (.code y bytes maxL ret :: UU) { frames := fr, cells := 0, slots := 0, locals := lo } 0 0 n :=
  callB_of n C.2.2.2.2.1 (goodU hc.1) rfl rfl rfl (C.2.2.2.2.1 _ hc.2.1) (C.2.2.2.2.1 _ hl) hc.2.2 hR
theorem w_cVi {y : MethodName} {bytes : ByteArray} {maxL : Nat} {ret : Option FieldType} {fr lo index : Nat} {As : List Value} {r : Int32} (C : Cx p s m args meth c cc nL own ret0 D cI cZ A) (hw : ∀ M M' : Mem, (w M).map (fun q => q.1) = (w M').map (fun q => q.1)) (hM : MI l D cI cZ w y bytes maxL ret fr lo (.ref b :: As) M r M') (hc : Cal y bytes maxL ret n) (hv : CalV y) (hl : Cond.methodLink own index y ∈ UU) (hst : St D w A s.heap H locs M) (hls : ls.size = nL) (q0 ci : Nat) {T : u_T} {N : Nat} {fs : List Value} (hrc : (w M)[q0]? = some (b, .inr (ci, fs))) (hcl : vwCl[ci]? = some (y.cls, T, N)) (hn : As.length = n) (hstk : st0 = As.reverse ++ .ref b :: rest) (hroom : (rest.map fun v => v.category).sum ≤ 8) (hR : fr + 1 ≤ R.frames ∧ 8 + (maxL + 11) + lo ≤ R.locals) (hdg : decode cc pc = .ok (.invokevirtual index, 3))
    (kk : ∀ (H1 : Heap) (locs1 : List Loc), St D w A s.heap H1 locs1 M' → W p l e R s m args below meth c H1 locs1 0 0 Q (F0 m (pc + 3) ls (.int r :: rest))) : W p l e R s m args below meth c H locs 0 0 Q (F0 m pc ls st0) := by
  subst hstk
  have cb := w_cb (R := R) C hc hl hR
  obtain ⟨hx, hb, hml, hown, hU, hr, hlk, hK, hA⟩ := C
  have hF := va_A_to hst.2.1 hst.2.2 hA
  refine va_calli (A1 := va_A (w M) H.size) (A0 := A) (va_runV (As := As) (rest := rest) ⟨hx, hb, hml, hown, hU⟩ (hM H.size) ⟨cb, hU _ hv.1, hU _ hv.2⟩ ⟨PR_blind, va_recv hK hst.1 hcl hrc, fun U hU' hW => ⟨rfl, by rw [hU'], by rw [hU']; exact hst.1, va_K.moved hW.alike hK, hst.2.1.weaken (fun _ _ _ _ => trivial)⟩⟩ rfl hn hls rfl (lv_room hroom) hdg ⟨Nat.zero_le _, Nat.zero_le _⟩) hst.2.2 (fun q _ h => hF q h) hF (fun r' u t H1 locs1 ht hvm hw' hB hz hk hS => ?_)
  cases hw'
  exact kk H1 locs1 ⟨by rw [← ht]; exact hB, va_D_ad hst.2.1 (hw M M'), hS⟩
theorem w_cVv {y : MethodName} {bytes : ByteArray} {maxL : Nat} {fr lo index : Nat} {As : List Value} (C : Cx p s m args meth c cc nL own ret0 D cI cZ A) (hw : ∀ M M' : Mem, (w M).map (fun q => q.1) = (w M').map (fun q => q.1)) (hM : MV l D cI cZ w y bytes maxL fr lo (.ref b :: As) M M') (hc : Cal y bytes maxL none n) (hv : CalV y) (hl : Cond.methodLink own index y ∈ UU) (hst : St D w A s.heap H locs M) (hls : ls.size = nL) (q0 ci : Nat) {T : u_T} {N : Nat} {fs : List Value} (hrc : (w M)[q0]? = some (b, .inr (ci, fs))) (hcl : vwCl[ci]? = some (y.cls, T, N)) (hn : As.length = n) (hstk : st0 = As.reverse ++ .ref b :: rest) (hroom : (rest.map fun v => v.category).sum ≤ 8) (hR : fr + 1 ≤ R.frames ∧ 8 + (maxL + 11) + lo ≤ R.locals) (hdg : decode cc pc = .ok (.invokevirtual index, 3))
    (kk : ∀ (H1 : Heap) (locs1 : List Loc), St D w A s.heap H1 locs1 M' → W p l e R s m args below meth c H1 locs1 0 0 Q (F0 m (pc + 3) ls rest)) : W p l e R s m args below meth c H locs 0 0 Q (F0 m pc ls st0) := by
  subst hstk
  have cb := w_cb (R := R) C hc hl hR
  obtain ⟨hx, hb, hml, hown, hU, hr, hlk, hK, hA⟩ := C
  have hF := va_A_to hst.2.1 hst.2.2 hA
  refine va_callv (A1 := va_A (w M) H.size) (A0 := A) (va_runV (As := As) (rest := rest) ⟨hx, hb, hml, hown, hU⟩ (hM H.size) ⟨cb, hU _ hv.1, hU _ hv.2⟩ ⟨PR_blind, va_recv hK hst.1 hcl hrc, fun U hU' hW => ⟨rfl, by rw [hU'], by rw [hU']; exact hst.1, va_K.moved hW.alike hK, hst.2.1.weaken (fun _ _ _ _ => trivial)⟩⟩ rfl hn hls rfl (lv_room hroom) hdg ⟨Nat.zero_le _, Nat.zero_le _⟩) hst.2.2 (fun q _ h => hF q h) hF (fun u t H1 locs1 ht hvm hw' hB hz hk hS => ?_)
  exact kk H1 locs1 ⟨by rw [← ht]; exact hB, va_D_ad hst.2.1 (hw M M'), hS⟩
theorem w_cSi {y : MethodName} {bytes : ByteArray} {maxL : Nat} {ret : Option FieldType} {fr lo index : Nat} {As : List Value} {r : Int32} (C : Cx p s m args meth c cc nL own ret0 D cI cZ A) (hw : ∀ M M' : Mem, (w M).map (fun q => q.1) = (w M').map (fun q => q.1)) (hM : MI l D cI cZ w y bytes maxL ret fr lo As M r M') (hc : Cal y bytes maxL ret n) (hv : Cond.static y ∈ UU) (hl : Cond.methodLink own index y ∈ UU) (hst : St D w A s.heap H locs M) (hls : ls.size = nL) (hn : As.length = n) (hstk : st0 = As.reverse ++ rest) (hroom : (rest.map fun v => v.category).sum ≤ 8) (hR : fr + 1 ≤ R.frames ∧ 8 + (maxL + 11) + lo ≤ R.locals) (hdg : decode cc pc = .ok (.invokestatic index, 3))
    (kk : ∀ (H1 : Heap) (locs1 : List Loc), St D w A s.heap H1 locs1 M' → W p l e R s m args below meth c H1 locs1 0 0 Q (F0 m (pc + 3) ls (.int r :: rest))) : W p l e R s m args below meth c H locs 0 0 Q (F0 m pc ls st0) := by
  subst hstk
  have cb := w_cb (R := R) C hc hl hR
  obtain ⟨hx, hb, hml, hown, hU, hr, hlk, hK, hA⟩ := C
  have hF := va_A_to hst.2.1 hst.2.2 hA
  refine va_calli (A1 := va_A (w M) H.size) (A0 := A) (va_runS (As := As) (rest := rest) ⟨hx, hb, hml, hown, hU⟩ (hM H.size) ⟨cb, hU _ hv⟩ ⟨PR_blind, fun U hU' hW => ⟨rfl, by rw [hU'], by rw [hU']; exact hst.1, va_K.moved hW.alike hK, hst.2.1.weaken (fun _ _ _ _ => trivial)⟩⟩ rfl hn hls rfl (lv_room hroom) hdg ⟨Nat.zero_le _, Nat.zero_le _⟩) hst.2.2 (fun q _ h => hF q h) hF (fun r' u t H1 locs1 ht hvm hw' hB hz hk hS => ?_)
  cases hw'
  exact kk H1 locs1 ⟨by rw [← ht]; exact hB, va_D_ad hst.2.1 (hw M M'), hS⟩
theorem w_iald {N : Nat} {f : Nat → Int32} {i : Int32} (C : Cx p s m args meth c cc nL own ret0 D cI cZ A) (hst : St D w A s.heap H locs M) (q0 : Nat) (hq : (w M)[q0]? = some (b, .inl (cI, N, .inl f))) (hin : vp_in i N) (hdg : decode cc pc = .ok (.iaload, 1))
    (kk : W p l e R s m args below meth c H locs 0 0 Q (F0 m (pc + 1) ls (.int (f i.toNatClampNeg) :: rest))) : W p l e R s m args below meth c H locs 0 0 Q (F0 m pc ls (.int i :: .ref b :: rest)) :=
  va_iald C.1 C.2.1 C.2.2.2.2.2.2.2.1 hst.1 q0 0 hq rfl hin hdg kk
theorem w_zald {N : Nat} {f : Nat → Int32} {i : Int32} (C : Cx p s m args meth c cc nL own ret0 D cI cZ A) (hst : St D w A s.heap H locs M) (q0 : Nat) (hq : (w M)[q0]? = some (b, .inl (cZ, N, .inl f))) (hin : vp_in i N) (hdg : decode cc pc = .ok (.baload, 1))
    (kk : W p l e R s m args below meth c H locs 0 0 Q (F0 m (pc + 1) ls (.int (f i.toNatClampNeg) :: rest))) : W p l e R s m args below meth c H locs 0 0 Q (F0 m pc ls (.int i :: .ref b :: rest)) :=
  va_zald C.1 C.2.1 C.2.2.2.2.2.2.2.1 hst.1 q0 1 hq rfl hin hdg kk
theorem w_iast {N : Nat} {f : Nat → Int32} {i x : Int32} (C : Cx p s m args meth c cc nL own ret0 D cI cZ A) (hst : St D w A s.heap H locs M) (q0 : Nat) (hq : (w M)[q0]? = some (b, .inl (cI, N, .inl f))) (hs : (w M).set q0 (b, .inl (cI, N, .inl (upd f i.toNatClampNeg x))) = w M') (hin : vp_in i N) (hdg : decode cc pc = .ok (.iastore, 1))
    (kk : ∀ (H1 : Heap) (locs1 : List Loc), St D w A s.heap H1 locs1 M' → W p l e R s m args below meth c H1 locs1 0 0 Q (F0 m (pc + 1) ls rest)) : W p l e R s m args below meth c H locs 0 0 Q (F0 m pc ls (.int x :: .int i :: .ref b :: rest)) := by
  refine va_iast C.1 C.2.1 C.2.2.2.2.2.2.2.1 hst.1 hst.2.1 hst.2.2 q0 0 hq rfl hin hdg (fun H1 locs1 h1 h2 h3 => ?_)
  rw [hs] at h1 h2
  exact kk H1 locs1 ⟨h1, h2, h3⟩
theorem w_zast {N : Nat} {f : Nat → Int32} {i x : Int32} (C : Cx p s m args meth c cc nL own ret0 D cI cZ A) (hst : St D w A s.heap H locs M) (q0 : Nat) (hq : (w M)[q0]? = some (b, .inl (cZ, N, .inl f))) (hx : vp_nar .boolean x = x) (hs : (w M).set q0 (b, .inl (cZ, N, .inl (upd f i.toNatClampNeg x))) = w M') (hin : vp_in i N) (hdg : decode cc pc = .ok (.bastore, 1))
    (kk : ∀ (H1 : Heap) (locs1 : List Loc), St D w A s.heap H1 locs1 M' → W p l e R s m args below meth c H1 locs1 0 0 Q (F0 m (pc + 1) ls rest)) : W p l e R s m args below meth c H locs 0 0 Q (F0 m pc ls (.int x :: .int i :: .ref b :: rest)) := by
  refine va_zast C.1 C.2.1 C.2.2.2.2.2.2.2.1 hst.1 hst.2.1 hst.2.2 q0 1 hq rfl hin hdg (fun H1 locs1 h1 h2 h3 => ?_)
  rw [hx, hs] at h1 h2
  exact kk H1 locs1 ⟨h1, h2, h3⟩
theorem w_iret {r : Int32} (C : Cx p s m args meth c cc nL own (some .int) D cI cZ A) (hst : St D w A s.heap H locs M) (hdg : decode cc pc = .ok (.ireturn, 1)) : Wi p l e R s m args below meth c D w A r M H locs (F0 m pc ls [.int r]) := by
  obtain ⟨hx, hb, hml, hown, hU, hr, hlk, hK, hA⟩ := C
  exact W.iret hx hb hr (fun t ht hW => ⟨⟨r, (), rfl, rfl, by show va_P D vwCl (w M) t.heap; rw [ht]; exact hst.1⟩, hst.2.2.F ht⟩) hst.2.2.2.2 hdg hlk
theorem w_zret {r : Int32} (C : Cx p s m args meth c cc nL own (some .boolean) D cI cZ A) (hn : narrow .boolean (.int r) = .int r) (hst : St D w A s.heap H locs M) (hdg : decode cc pc = .ok (.ireturn, 1)) : Wi p l e R s m args below meth c D w A r M H locs (F0 m pc ls [.int r]) := by
  obtain ⟨hx, hb, hml, hown, hU, hr, hlk, hK, hA⟩ := C
  exact W.zret hx hb hr hn (fun t ht hW => ⟨⟨r, (), rfl, rfl, by show va_P D vwCl (w M) t.heap; rw [ht]; exact hst.1⟩, hst.2.2.F ht⟩) hst.2.2.2.2 hdg hlk
theorem w_vret (C : Cx p s m args meth c cc nL own none D cI cZ A) (hst : St D w A s.heap H locs M) (hdg : decode cc pc = .ok (.return_, 1)) : Wv p l e R s m args below meth c D w A M H locs (F0 m pc ls []) := by
  obtain ⟨hx, hb, hml, hown, hU, hr, hlk, hK, hA⟩ := C
  exact W.vret hx hb hr (fun t ht hW => ⟨⟨(), rfl, trivial, by show va_P D vwCl (w M) t.heap; rw [ht]; exact hst.1⟩, hst.2.2.F ht⟩) hst.2.2.2.2 hdg hlk
end KW
section KM
variable {l : Launch} {D : va_G} {cI cZ : ClassId} {w : Mem → va_W} {y : MethodName} {bytes : ByteArray} {maxL : Nat} {ret : Option FieldType} {fr lo : Nat} {av : List Value} {M M' : Mem} {r : Int32}
theorem MI.of (hy : plainName y.cls = true) (hlen : (lg_sl av).length ≤ maxL) (body : ∀ (p : Program) (e : Env) (s : State) (m : MethodId) (args : Array Value) (below : List Frame) (meth : Method) (c : Code) (A : Nat → Prop), Cx p s m args meth c bytes maxL y.cls ret D cI cZ A → St D w A s.heap s.heap [] M → ∀ ls : Array Slot, lv_has ls maxL (lv_args 0 av) → Wi p l e { frames := fr, cells := 0, slots := 0, locals := lo } s m args below meth c D w A r M' s.heap [] (F0 m 0 ls [])) : MI l D cI cZ w y bytes maxL ret fr lo av M r M' := by
  intro sz
  refine Met.ofW (cc := bytes) (maxL := maxL) (ret := ret) hy rfl ?_
  intro p e s m args below meth c s₁ B hml hv
  obtain ⟨rfl, hsz, hP, hK, hD0⟩ := hv
  have hts := atoms_spec (ws := .code y bytes maxL ret :: UU) B.pre
  subst hsz
  have hl := lv_entry av (n := maxL) hlen
  rw [lg_entry_eq]
  exact body p e s m av.toArray below meth c (va_A (w M) s.heap.size) ⟨B.exec, B.bytes, hml, findClass_of_methodNamed B.named, fun w h => hts w (List.mem_cons_of_mem _ h), B.returns, B.notSynchronized, hK, fun q h => Or.inr h⟩ ⟨hP, hD0.self, va_S.rf⟩ _ hl
theorem MV.of (hy : plainName y.cls = true) (hlen : (lg_sl av).length ≤ maxL) (body : ∀ (p : Program) (e : Env) (s : State) (m : MethodId) (args : Array Value) (below : List Frame) (meth : Method) (c : Code) (A : Nat → Prop), Cx p s m args meth c bytes maxL y.cls none D cI cZ A → St D w A s.heap s.heap [] M → ∀ ls : Array Slot, lv_has ls maxL (lv_args 0 av) → Wv p l e { frames := fr, cells := 0, slots := 0, locals := lo } s m args below meth c D w A M' s.heap [] (F0 m 0 ls [])) : MV l D cI cZ w y bytes maxL fr lo av M M' := by
  intro sz
  refine Met.ofW (cc := bytes) (maxL := maxL) (ret := none) hy rfl ?_
  intro p e s m args below meth c s₁ B hml hv
  obtain ⟨rfl, hsz, hP, hK, hD0⟩ := hv
  have hts := atoms_spec (ws := .code y bytes maxL none :: UU) B.pre
  subst hsz
  have hl := lv_entry av (n := maxL) hlen
  rw [lg_entry_eq]
  exact body p e s m av.toArray below meth c (va_A (w M) s.heap.size) ⟨B.exec, B.bytes, hml, findClass_of_methodNamed B.named, fun w h => hts w (List.mem_cons_of_mem _ h), B.returns, B.notSynchronized, hK, fun q h => Or.inr h⟩ ⟨hP, hD0.self, va_S.rf⟩ _ hl
end KM
def fu : Nat := 4000
def wB (cI cZ : ClassId) (a : Nat → Nat) (M : Mem) : va_W := [(a 0, .inr (8, [.ref (a 1), .ref (a 5), .ref (a 10), .ref (a 12), .ref (a 14), .ref (a 20), .ref (a 22), .ref (a 23), .int (M 0 8)])),
  (a 1, .inr (3, [.ref (a 2), .ref (a 3), .ref (a 4), .int (M 1 3)])),
  (a 2, .inl (cI, 12000, .inl (M 2))),
  (a 3, .inl (cI, 6, .inl (M 3))),
  (a 4, .inl (cI, 6, .inl (M 4))),
  (a 5, .inr (4, [.ref (a 6), .ref (a 7), .ref (a 8), .ref (a 9), .int (M 5 4), .int (M 5 5)])),
  (a 6, .inl (cI, 40, .inl (M 6))),
  (a 7, .inl (cI, 40, .inl (M 7))),
  (a 8, .inl (cI, 40, .inl (M 8))),
  (a 9, .inl (cI, 40, .inl (M 9))),
  (a 10, .inr (5, [.ref (a 1), .ref (a 11), .int (M 10 2), .int (M 10 3)])),
  (a 11, .inl (cI, 7, .inl (M 11))),
  (a 12, .inr (7, [.ref (a 1), .ref (a 13)])),
  (a 13, .inl (cI, 7, .inl (M 13))),
  (a 14, .inr (2, [.ref (a 15), .ref (a 16), .ref (a 17), .ref (a 18), .ref (a 19), .int (M 14 5)])),
  (a 15, .inl (cI, 100, .inl (M 15))),
  (a 16, .inl (cI, 100, .inl (M 16))),
  (a 17, .inl (cI, 100, .inl (M 17))),
  (a 18, .inl (cI, 100, .inl (M 18))),
  (a 19, .inl (cZ, 100, .inl (M 19))),
  (a 20, .inr (6, [.ref (a 21)])),
  (a 21, .inl (cI, 24, .inl (M 21))),
  (a 22, .inr (0, [.ref (a 1), .ref (a 20)])),
  (a 23, .inr (1, [.ref (a 1), .ref (a 22), .ref (a 24), .ref (a 25), .ref (a 26)])),
  (a 24, .inl (cI, 4, .inl (M 24))),
  (a 25, .inl (cI, 4, .inl (M 25))),
  (a 26, .inl (cI, 4, .inl (M 26)))]
theorem wB_ad (cI cZ : ClassId) (a : Nat → Nat) : ∀ M M' : Mem, (wB cI cZ a M).map (fun q => q.1) = (wB cI cZ a M').map (fun q => q.1) := fun _ _ => rfl
theorem wB_set2 (cI cZ : ClassId) (a : Nat → Nat) (M : Mem) (j : Nat) (x : Int32) : (wB cI cZ a M).set 2 (a 2, .inl (cI, 12000, .inl (upd (M 2) j x))) = wB cI cZ a (upM M 2 j x) := rfl
theorem wB_set3 (cI cZ : ClassId) (a : Nat → Nat) (M : Mem) (j : Nat) (x : Int32) : (wB cI cZ a M).set 3 (a 3, .inl (cI, 6, .inl (upd (M 3) j x))) = wB cI cZ a (upM M 3 j x) := rfl
theorem wB_set4 (cI cZ : ClassId) (a : Nat → Nat) (M : Mem) (j : Nat) (x : Int32) : (wB cI cZ a M).set 4 (a 4, .inl (cI, 6, .inl (upd (M 4) j x))) = wB cI cZ a (upM M 4 j x) := rfl
theorem wB_set6 (cI cZ : ClassId) (a : Nat → Nat) (M : Mem) (j : Nat) (x : Int32) : (wB cI cZ a M).set 6 (a 6, .inl (cI, 40, .inl (upd (M 6) j x))) = wB cI cZ a (upM M 6 j x) := rfl
theorem wB_set7 (cI cZ : ClassId) (a : Nat → Nat) (M : Mem) (j : Nat) (x : Int32) : (wB cI cZ a M).set 7 (a 7, .inl (cI, 40, .inl (upd (M 7) j x))) = wB cI cZ a (upM M 7 j x) := rfl
theorem wB_set8 (cI cZ : ClassId) (a : Nat → Nat) (M : Mem) (j : Nat) (x : Int32) : (wB cI cZ a M).set 8 (a 8, .inl (cI, 40, .inl (upd (M 8) j x))) = wB cI cZ a (upM M 8 j x) := rfl
theorem wB_set9 (cI cZ : ClassId) (a : Nat → Nat) (M : Mem) (j : Nat) (x : Int32) : (wB cI cZ a M).set 9 (a 9, .inl (cI, 40, .inl (upd (M 9) j x))) = wB cI cZ a (upM M 9 j x) := rfl
theorem wB_set11 (cI cZ : ClassId) (a : Nat → Nat) (M : Mem) (j : Nat) (x : Int32) : (wB cI cZ a M).set 11 (a 11, .inl (cI, 7, .inl (upd (M 11) j x))) = wB cI cZ a (upM M 11 j x) := rfl
theorem wB_set13 (cI cZ : ClassId) (a : Nat → Nat) (M : Mem) (j : Nat) (x : Int32) : (wB cI cZ a M).set 13 (a 13, .inl (cI, 7, .inl (upd (M 13) j x))) = wB cI cZ a (upM M 13 j x) := rfl
theorem wB_set15 (cI cZ : ClassId) (a : Nat → Nat) (M : Mem) (j : Nat) (x : Int32) : (wB cI cZ a M).set 15 (a 15, .inl (cI, 100, .inl (upd (M 15) j x))) = wB cI cZ a (upM M 15 j x) := rfl
theorem wB_set16 (cI cZ : ClassId) (a : Nat → Nat) (M : Mem) (j : Nat) (x : Int32) : (wB cI cZ a M).set 16 (a 16, .inl (cI, 100, .inl (upd (M 16) j x))) = wB cI cZ a (upM M 16 j x) := rfl
theorem wB_set17 (cI cZ : ClassId) (a : Nat → Nat) (M : Mem) (j : Nat) (x : Int32) : (wB cI cZ a M).set 17 (a 17, .inl (cI, 100, .inl (upd (M 17) j x))) = wB cI cZ a (upM M 17 j x) := rfl
theorem wB_set18 (cI cZ : ClassId) (a : Nat → Nat) (M : Mem) (j : Nat) (x : Int32) : (wB cI cZ a M).set 18 (a 18, .inl (cI, 100, .inl (upd (M 18) j x))) = wB cI cZ a (upM M 18 j x) := rfl
theorem wB_set19 (cI cZ : ClassId) (a : Nat → Nat) (M : Mem) (j : Nat) (x : Int32) : (wB cI cZ a M).set 19 (a 19, .inl (cZ, 100, .inl (upd (M 19) j x))) = wB cI cZ a (upM M 19 j x) := rfl
theorem wB_set21 (cI cZ : ClassId) (a : Nat → Nat) (M : Mem) (j : Nat) (x : Int32) : (wB cI cZ a M).set 21 (a 21, .inl (cI, 24, .inl (upd (M 21) j x))) = wB cI cZ a (upM M 21 j x) := rfl
theorem wB_set24 (cI cZ : ClassId) (a : Nat → Nat) (M : Mem) (j : Nat) (x : Int32) : (wB cI cZ a M).set 24 (a 24, .inl (cI, 4, .inl (upd (M 24) j x))) = wB cI cZ a (upM M 24 j x) := rfl
theorem wB_set25 (cI cZ : ClassId) (a : Nat → Nat) (M : Mem) (j : Nat) (x : Int32) : (wB cI cZ a M).set 25 (a 25, .inl (cI, 4, .inl (upd (M 25) j x))) = wB cI cZ a (upM M 25 j x) := rfl
theorem wB_set26 (cI cZ : ClassId) (a : Nat → Nat) (M : Mem) (j : Nat) (x : Int32) : (wB cI cZ a M).set 26 (a 26, .inl (cI, 4, .inl (upd (M 26) j x))) = wB cI cZ a (upM M 26 j x) := rfl
def wM (cI cZ : ClassId) (a : Nat → Nat) (M : Mem) : va_W := [(a 0, .inr (9, [.int (M 0 0), .int (M 0 1), .int (M 0 2), .int (M 0 3), .ref (a 1), .ref (a 2), .ref (a 3), .ref (a 4), .ref (a 5), .ref (a 6), .ref (a 7), .ref (a 8), .ref (a 9), .ref (a 10), .int (M 0 14), .int (M 0 15), .ref (a 11), .ref (a 12), .ref (a 13), .ref (a 14), .ref (a 15), .ref (a 16), .ref (a 17), .ref (a 18), .int (M 0 24)])),
  (a 1, .inl (cI, 24, .inl (M 1))),
  (a 2, .inl (cI, 12000, .inl (M 2))),
  (a 3, .inl (cZ, 6, .inl (M 3))),
  (a 4, .inl (cI, 6, .inl (M 4))),
  (a 5, .inl (cI, 40, .inl (M 5))),
  (a 6, .inl (cI, 40, .inl (M 6))),
  (a 7, .inl (cI, 40, .inl (M 7))),
  (a 8, .inl (cI, 40, .inl (M 8))),
  (a 9, .inl (cI, 7, .inl (M 9))),
  (a 10, .inl (cI, 7, .inl (M 10))),
  (a 11, .inl (cI, 100, .inl (M 11))),
  (a 12, .inl (cI, 100, .inl (M 12))),
  (a 13, .inl (cI, 100, .inl (M 13))),
  (a 14, .inl (cI, 100, .inl (M 14))),
  (a 15, .inl (cZ, 100, .inl (M 15))),
  (a 16, .inl (cI, 4, .inl (M 16))),
  (a 17, .inl (cI, 4, .inl (M 17))),
  (a 18, .inl (cI, 4, .inl (M 18)))]
theorem wM_ad (cI cZ : ClassId) (a : Nat → Nat) : ∀ M M' : Mem, (wM cI cZ a M).map (fun q => q.1) = (wM cI cZ a M').map (fun q => q.1) := fun _ _ => rfl
theorem wM_set1 (cI cZ : ClassId) (a : Nat → Nat) (M : Mem) (j : Nat) (x : Int32) : (wM cI cZ a M).set 1 (a 1, .inl (cI, 24, .inl (upd (M 1) j x))) = wM cI cZ a (upM M 1 j x) := rfl
theorem wM_set2 (cI cZ : ClassId) (a : Nat → Nat) (M : Mem) (j : Nat) (x : Int32) : (wM cI cZ a M).set 2 (a 2, .inl (cI, 12000, .inl (upd (M 2) j x))) = wM cI cZ a (upM M 2 j x) := rfl
theorem wM_set3 (cI cZ : ClassId) (a : Nat → Nat) (M : Mem) (j : Nat) (x : Int32) : (wM cI cZ a M).set 3 (a 3, .inl (cZ, 6, .inl (upd (M 3) j x))) = wM cI cZ a (upM M 3 j x) := rfl
theorem wM_set4 (cI cZ : ClassId) (a : Nat → Nat) (M : Mem) (j : Nat) (x : Int32) : (wM cI cZ a M).set 4 (a 4, .inl (cI, 6, .inl (upd (M 4) j x))) = wM cI cZ a (upM M 4 j x) := rfl
theorem wM_set5 (cI cZ : ClassId) (a : Nat → Nat) (M : Mem) (j : Nat) (x : Int32) : (wM cI cZ a M).set 5 (a 5, .inl (cI, 40, .inl (upd (M 5) j x))) = wM cI cZ a (upM M 5 j x) := rfl
theorem wM_set6 (cI cZ : ClassId) (a : Nat → Nat) (M : Mem) (j : Nat) (x : Int32) : (wM cI cZ a M).set 6 (a 6, .inl (cI, 40, .inl (upd (M 6) j x))) = wM cI cZ a (upM M 6 j x) := rfl
theorem wM_set7 (cI cZ : ClassId) (a : Nat → Nat) (M : Mem) (j : Nat) (x : Int32) : (wM cI cZ a M).set 7 (a 7, .inl (cI, 40, .inl (upd (M 7) j x))) = wM cI cZ a (upM M 7 j x) := rfl
theorem wM_set8 (cI cZ : ClassId) (a : Nat → Nat) (M : Mem) (j : Nat) (x : Int32) : (wM cI cZ a M).set 8 (a 8, .inl (cI, 40, .inl (upd (M 8) j x))) = wM cI cZ a (upM M 8 j x) := rfl
theorem wM_set9 (cI cZ : ClassId) (a : Nat → Nat) (M : Mem) (j : Nat) (x : Int32) : (wM cI cZ a M).set 9 (a 9, .inl (cI, 7, .inl (upd (M 9) j x))) = wM cI cZ a (upM M 9 j x) := rfl
theorem wM_set10 (cI cZ : ClassId) (a : Nat → Nat) (M : Mem) (j : Nat) (x : Int32) : (wM cI cZ a M).set 10 (a 10, .inl (cI, 7, .inl (upd (M 10) j x))) = wM cI cZ a (upM M 10 j x) := rfl
theorem wM_set11 (cI cZ : ClassId) (a : Nat → Nat) (M : Mem) (j : Nat) (x : Int32) : (wM cI cZ a M).set 11 (a 11, .inl (cI, 100, .inl (upd (M 11) j x))) = wM cI cZ a (upM M 11 j x) := rfl
theorem wM_set12 (cI cZ : ClassId) (a : Nat → Nat) (M : Mem) (j : Nat) (x : Int32) : (wM cI cZ a M).set 12 (a 12, .inl (cI, 100, .inl (upd (M 12) j x))) = wM cI cZ a (upM M 12 j x) := rfl
theorem wM_set13 (cI cZ : ClassId) (a : Nat → Nat) (M : Mem) (j : Nat) (x : Int32) : (wM cI cZ a M).set 13 (a 13, .inl (cI, 100, .inl (upd (M 13) j x))) = wM cI cZ a (upM M 13 j x) := rfl
theorem wM_set14 (cI cZ : ClassId) (a : Nat → Nat) (M : Mem) (j : Nat) (x : Int32) : (wM cI cZ a M).set 14 (a 14, .inl (cI, 100, .inl (upd (M 14) j x))) = wM cI cZ a (upM M 14 j x) := rfl
theorem wM_set15 (cI cZ : ClassId) (a : Nat → Nat) (M : Mem) (j : Nat) (x : Int32) : (wM cI cZ a M).set 15 (a 15, .inl (cZ, 100, .inl (upd (M 15) j x))) = wM cI cZ a (upM M 15 j x) := rfl
theorem wM_set16 (cI cZ : ClassId) (a : Nat → Nat) (M : Mem) (j : Nat) (x : Int32) : (wM cI cZ a M).set 16 (a 16, .inl (cI, 4, .inl (upd (M 16) j x))) = wM cI cZ a (upM M 16 j x) := rfl
theorem wM_set17 (cI cZ : ClassId) (a : Nat → Nat) (M : Mem) (j : Nat) (x : Int32) : (wM cI cZ a M).set 17 (a 17, .inl (cI, 4, .inl (upd (M 17) j x))) = wM cI cZ a (upM M 17 j x) := rfl
theorem wM_set18 (cI cZ : ClassId) (a : Nat → Nat) (M : Mem) (j : Nat) (x : Int32) : (wM cI cZ a M).set 18 (a 18, .inl (cI, 4, .inl (upd (M 18) j x))) = wM cI cZ a (upM M 18 j x) := rfl

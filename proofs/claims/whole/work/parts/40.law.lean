/-! THE CLAIM OUT OF ONE WALK OF THE LAW'S BODY. Your part is whole_start (and what it stands on); all else here is the same for every law, but numbers. -/
def R_law : String := "BillWatchLaw"
def lw_P (b : Addr) (xs : List Int32) (args : Array Value) (s : State) : Prop := args = #[.ref b] ∧ s.IntsAt b xs ∧ xs.length ≤ 3072 ∧ (Jvm.Cond.and given_1 narrow_1).before args s = true
def lw_Q (_ : Array Value) (s : State) (o : Outcome) (t : State) : Prop := o = .returned (some (.int 1)) ∧ Framed s o t [] 46 25508
def lw_Z (below : List Frame) (a : Array Value) (s : State) : State → Prop := fun t => ∃ o, t.status = .running ∧ Ended t below o ∧ lw_Q a s o t
/-- the law's own end, with 1 on the stack, nothing written that was there before, its room as the claim has it -/
theorem lw_ret {p : Program} {l : Launch} {e : Env} {s : State} {m : MethodId} {below : List Frame} {meth : Method} {c : Code} {b : Nat} (hx : p.tables.exec = Jvm.exec) (hb : c.code = code) (hr : meth.sig.returnType = ret) (hlocks : meth.locks = false) {pc : Nat} {H : Heap} {ls : Array Slot} (hdg : decode code pc = .ok (.ireturn, 1)) : W p l e room_1 s m #[Value.ref b] below meth c H [] 46 25508 (lw_Z below #[Value.ref b] s) (F0 m pc ls [.int 1]) := by
  intro T hT X
  obtain ⟨fs, hret, hrun, hended, hW, hframe⟩ := X.leave (v := some (.int 1)) (hlocks := hlocks) (fun h => by rw [hr] at h; cases h)
  have hmeth' : T.vm.method? m = some meth := X.method'
  refine ⟨T.setFrames fs, ?_, .returned (some (.int 1)), hrun, hended, rfl, ⟨_, rfl⟩, hW, hframe⟩
  jvm_step X.here [X.here.top, hx, hb, hdg, hmeth', hr, ret, narrow_b1]
  (try refine ⟨rfl, ?_⟩); (try refine ⟨rfl, ?_⟩)
  first | (intro acts; rw [hret _ acts rfl rfl rfl]) | rw [hret _ _ rfl rfl rfl]
  exact Steps.refl _
/-- what holds at the law's entry: the machine, the code, the tables' words (any of lw_tbl by 'hts w (by decide +kernel)'), the script of L ints xs at the cell b, what the Statement gives of the start (any of its parts by flat_of_before) -/
def lw_At (p : Program) (s : State) (m : MethodId) (meth : Method) (c : Code) (b L : Nat) (xs : Nat → Int32) : Prop :=
  p.tables.exec = Jvm.exec ∧ c.code = code ∧ meth.sig.returnType = ret ∧ c.maxLocals = 4 ∧ s.vm.findClass R_law = some m.cls ∧ (∀ w ∈ lw_tbl, w.before #[Value.ref b] s = true) ∧ va_X b L xs s s.heap ∧ b < s.heap.size ∧ meth.locks = false ∧ (Jvm.Cond.and given_1 narrow_1).before #[Value.ref b] s = true
/-! the law: two systems side by side -/
def LD (A : Nat → Prop) (w1 w2 : va_W) : Prop := va_D A w1 ∧ va_D A w2 ∧ ∀ (i j : Nat) (p q : Nat × va_E), w1[i]? = some p → w2[j]? = some q → p.1 ≠ q.1
theorem LD.symm {A : Nat → Prop} {w1 w2 : va_W} (h : LD A w1 w2) : LD A w2 w1 := ⟨h.2.1, h.1, fun i j p q hi hj e => h.2.2 j i q p hj hi e.symm⟩
theorem LD.ad {A : Nat → Prop} {w1 w1' w2 : va_W} (h : LD A w1 w2) (e : w1.map (fun q => q.1) = w1'.map (fun q => q.1)) : LD A w1' w2 := by
  refine ⟨va_D_ad h.1 e, h.2.1, fun i j p q hi hj he => ?_⟩
  have h1 : (w1.map (fun q => q.1))[i]? = some p.1 := by rw [e, List.getElem?_map, hi]; rfl
  rw [List.getElem?_map] at h1
  cases h2 : w1[i]? with
  | none => rw [h2] at h1; cases h1
  | some p0 =>
    rw [h2] at h1
    have h3 : p0.1 = p.1 := Option.some.inj h1
    exact h.2.2 i j p0 q h2 hj (h3.trans he)
section K2S
variable {p : Program} {l : Launch} {e : Env} {R : Room} {s : State} {m : MethodId} {args : Array Value} {below : List Frame} {meth : Method} {c : Code} {H : Heap} {locs : List Loc} {Q : State → Prop} {cells slots : Nat}
variable {cc : ByteArray} {pc nL n : Nat} {ls : Array Slot} {rest st0 : List Value} {D : va_G} {A : Nat → Prop} {b : Nat} {w1 w2 : Mem → va_W} {own : String} {ret0 : Option FieldType} {cI cZ : ClassId} {M1 M1' M2 : Mem}
theorem w_c2 {y : MethodName} {bytes : ByteArray} {maxL : Nat} {ret : Option FieldType} {fr lo index : Nat} {As : List Value} {r : Int32} (C : Cx p s m args meth c cc nL own ret0 D cI cZ A) (hw : ∀ M M' : Mem, (w1 M).map (fun q => q.1) = (w1 M').map (fun q => q.1)) (hM : MI l D cI cZ w1 y bytes maxL ret fr lo (.ref b :: As) M1 r M1') (hc : Cal y bytes maxL ret n) (hv : CalV y) (hl : Cond.methodLink own index y ∈ UU) (h1 : va_P D vwCl (w1 M1) H) (h2 : va_P D vwCl (w2 M2) H) (hD : LD A (w1 M1) (w2 M2)) (hS : va_S A s.heap H locs) (hls : ls.size = nL) (q0 ci : Nat) {T : u_T} {N : Nat} {fs : List Value} (hrc : (w1 M1)[q0]? = some (b, .inr (ci, fs))) (hcl : vwCl[ci]? = some (y.cls, T, N)) (hn : As.length = n) (hstk : st0 = As.reverse ++ .ref b :: rest) (hroom : (rest.map fun v => v.category).sum ≤ 8) (hR : fr + 1 ≤ R.frames ∧ 8 + (maxL + 11) + lo ≤ R.locals) (hcs : cells ≤ R.cells ∧ slots ≤ R.slots) (hdg : decode cc pc = .ok (.invokevirtual index, 3))
    (kk : ∀ (H1 : Heap) (locs1 : List Loc), va_P D vwCl (w1 M1') H1 → va_P D vwCl (w2 M2) H1 → LD A (w1 M1') (w2 M2) → va_S A s.heap H1 locs1 → W p l e R s m args below meth c H1 locs1 cells slots Q (F0 m (pc + 3) ls (.int r :: rest))) : W p l e R s m args below meth c H locs cells slots Q (F0 m pc ls st0) := by
  subst hstk
  have cb := w_cb (R := R) C hc hl hR
  obtain ⟨hx, hb, hml, hown, hU, hr, hlk, hK, hA⟩ := C
  have hF := va_A_to hD.1 hS hA
  refine va_calli (A1 := va_A (w1 M1) H.size) (A0 := A) (va_runV (As := As) (rest := rest) ⟨hx, hb, hml, hown, hU⟩ (hM H.size) ⟨cb, hU _ hv.1, hU _ hv.2⟩ ⟨PR_blind, va_recv hK h1 hcl hrc, fun U hU' hW => ⟨rfl, by rw [hU'], by rw [hU']; exact h1, va_K.moved hW.alike hK, hD.1.weaken (fun _ _ _ _ => trivial)⟩⟩ rfl hn hls rfl (lv_room hroom) hdg hcs) hS (fun q _ h => hF q h) hF (fun r' u t H1 locs1 ht hvm hw' hB hz hk hS1 => ?_)
  cases hw'
  refine kk H1 locs1 (by rw [← ht]; exact hB) ?_ (hD.ad (hw M1 M1')) hS1
  intro k q hq
  have hlt := (h2 k q hq).lt
  refine (h2 k q hq).kept (hk q.1 hlt ?_)
  rintro (⟨i, e', hi⟩ | h)
  · exact hD.2.2 i k (q.1, e') q hi hq rfl
  · exact absurd h (Nat.not_le.mpr hlt)
end K2S
def Op1 (Rel : Mem → Mem → Prop) (f g : Int32 → Mem → Res) : Prop := ∀ MB MM : Mem, Rel MB MM → ∀ x1 : Int32, ∃ (r : Int32) (MB' MM' : Mem), f x1 MB = some (r, MB') ∧ g x1 MM = some (r, MM') ∧ Rel MB' MM'
def Op2 (Rel : Mem → Mem → Prop) (f g : Int32 → Int32 → Mem → Res) : Prop := ∀ MB MM : Mem, Rel MB MM → ∀ x1 x2 : Int32, ∃ (r : Int32) (MB' MM' : Mem), f x1 x2 MB = some (r, MB') ∧ g x1 x2 MM = some (r, MM') ∧ Rel MB' MM'
def Op3 (Rel : Mem → Mem → Prop) (f g : Int32 → Int32 → Int32 → Mem → Res) : Prop := ∀ MB MM : Mem, Rel MB MM → ∀ x1 x2 x3 : Int32, ∃ (r : Int32) (MB' MM' : Mem), f x1 x2 x3 MB = some (r, MB') ∧ g x1 x2 x3 MM = some (r, MM') ∧ Rel MB' MM'
def Op4 (Rel : Mem → Mem → Prop) (f g : Int32 → Int32 → Int32 → Int32 → Mem → Res) : Prop := ∀ MB MM : Mem, Rel MB MM → ∀ x1 x2 x3 x4 : Int32, ∃ (r : Int32) (MB' MM' : Mem), f x1 x2 x3 x4 MB = some (r, MB') ∧ g x1 x2 x3 x4 MM = some (r, MM') ∧ Rel MB' MM'
def Op5 (Rel : Mem → Mem → Prop) (f g : Int32 → Int32 → Int32 → Int32 → Int32 → Mem → Res) : Prop := ∀ MB MM : Mem, Rel MB MM → ∀ x1 x2 x3 x4 x5 : Int32, ∃ (r : Int32) (MB' MM' : Mem), f x1 x2 x3 x4 x5 MB = some (r, MB') ∧ g x1 x2 x3 x4 x5 MM = some (r, MM') ∧ Rel MB' MM'
abbrev AL (s : State) : Nat → Prop := fun q => s.heap.size ≤ q
def TwS (D : va_G) (cI cZ : ClassId) (a g : Nat → Nat) (s : State) (H : Heap) (locs : List Loc) (MB MM : Mem) : Prop := va_P D vwCl (wB cI cZ a MB) H ∧ va_P D vwCl (wM cI cZ g MM) H ∧ LD (AL s) (wB cI cZ a MB) (wM cI cZ g MM) ∧ va_S (AL s) s.heap H locs
abbrev WLw (p : Program) (l : Launch) (e : Env) (s : State) (m : MethodId) (b : Nat) (below : List Frame) (meth : Method) (c : Code) (H : Heap) (locs : List Loc) (g : JFrame) : Prop := W p l e room_1 s m #[Value.ref b] below meth c H locs 46 25508 (lw_Z below #[Value.ref b] s) g
set_option maxHeartbeats 4000000 in
set_option maxRecDepth 100000 in
theorem law_0 {p : Program} {l : Launch} {e : Env} {s : State} {m : MethodId} {below : List Frame} {meth : Method} {c : Code} {D : va_G} {cI cZ : ClassId} {a g : Nat → Nat} {b L : Nat} {xs : Nat → Int32} (C : Cx p s m #[Value.ref b] meth c cL_law 4 RL ret D cI cZ (AL s)) (hX : va_X b L xs s s.heap) (hbl : b < s.heap.size) {Rel : Mem → Mem → Prop} (hop : Op2 Rel fX8_owner fX9_owner) {x3 : Int32} (hi1 : vp_in (x3 + 1) L) (hi2 : vp_in (x3 + 2) L) (hi3 : vp_in (x3 + 3) L) (hi4 : vp_in (x3 + 4) L) (hi5 : vp_in (x3 + 5) L) (MB MM : Mem) (hR : Rel MB MM) (H : Heap) (locs : List Loc) (ls : Array Slot) (hst : TwS D cI cZ a g s H locs MB MM) (hl : lv_has ls 4 [(0, .ref b), (1, .ref (a 0)), (2, .ref (g 0)), (3, .int x3)]) (hn : ∀ (MB MM : Mem) (H : Heap) (locs : List Loc) (ls : Array Slot), Rel MB MM → TwS D cI cZ a g s H locs MB MM → lv_has ls 4 [(0, .ref b), (1, .ref (a 0)), (2, .ref (g 0)), (3, .int x3)] → WLw p l e s m b below meth c H locs (F0 m 660 ls [])) : WLw p l e s m b below meth c H locs (F0 m 112 ls []) := by
  obtain ⟨hx, hb, hml, hown, hU, hr, hlk, hK, hA⟩ := id C
  have hbA : ¬ AL s b := Nat.not_le.mpr hbl
  refine lv_aload_n hx hb dL_law_112 rfl (lv_at hl 1 rfl) ?_
  refine lv_aload_n hx hb dL_law_113 rfl (lv_at hl 0 rfl) ?_
  refine lv_iload_n hx hb dL_law_114 rfl (lv_at hl 3 rfl) ?_
  refine lv_iconst (v := 1) hx hb dL_law_115 (by decide) ?_
  refine lv_iadd hx hb dL_law_116 ?_
  refine va_sld hx hb hX hbl hbA hst.2.2.2 hi1 dL_law_117 ?_
  refine lv_aload_n hx hb dL_law_118 rfl (lv_at hl 0 rfl) ?_
  refine lv_iload_n hx hb dL_law_119 rfl (lv_at hl 3 rfl) ?_
  refine lv_iconst (v := 2) hx hb dL_law_120 (by decide) ?_
  refine lv_iadd hx hb dL_law_121 ?_
  refine va_sld hx hb hX hbl hbA hst.2.2.2 hi2 dL_law_122 ?_
  obtain ⟨r, MB1, MM1, hB, hM, hR⟩ := hop MB MM hR (xs (Int32.toNatClampNeg (x3 + 1))) (xs (Int32.toNatClampNeg (x3 + 2)))
  refine w_c2 (w1 := wB cI cZ a) (w2 := wM cI cZ g) (As := [.int (xs (Int32.toNatClampNeg (x3 + 1))), .int (xs (Int32.toNatClampNeg (x3 + 2)))]) (rest := []) C (wB_ad cI cZ a) (mX8_owner l D cI cZ a (xs (Int32.toNatClampNeg (x3 + 1))) (xs (Int32.toNatClampNeg (x3 + 2))) MB r MB1 hB) calX8_owner cavX8_owner (mU1 197 rfl rfl) hst.1 hst.2.1 hst.2.2.1 hst.2.2.2 hl.1 0 8 rfl rfl rfl rfl (Nat.le_of_ble_eq_true rfl) ⟨Nat.le_of_ble_eq_true rfl, Nat.le_of_ble_eq_true rfl⟩ ⟨Nat.le_refl _, Nat.le_refl _⟩ dL_law_123 (fun H locs g1 g2 g3 g4 => ?_)
  have hst : TwS D cI cZ a g s H locs MB1 MM := ⟨g1, g2, g3, g4⟩
  refine lv_aload_n hx hb dL_law_126 rfl (lv_at hl 2 rfl) ?_
  refine lv_aload_n hx hb dL_law_127 rfl (lv_at hl 0 rfl) ?_
  refine lv_iload_n hx hb dL_law_128 rfl (lv_at hl 3 rfl) ?_
  refine lv_iconst (v := 1) hx hb dL_law_129 (by decide) ?_
  refine lv_iadd hx hb dL_law_130 ?_
  refine va_sld hx hb hX hbl hbA hst.2.2.2 hi1 dL_law_131 ?_
  refine lv_aload_n hx hb dL_law_132 rfl (lv_at hl 0 rfl) ?_
  refine lv_iload_n hx hb dL_law_133 rfl (lv_at hl 3 rfl) ?_
  refine lv_iconst (v := 2) hx hb dL_law_134 (by decide) ?_
  refine lv_iadd hx hb dL_law_135 ?_
  refine va_sld hx hb hX hbl hbA hst.2.2.2 hi2 dL_law_136 ?_
  refine w_c2 (w1 := wM cI cZ g) (w2 := wB cI cZ a) (As := [.int (xs (Int32.toNatClampNeg (x3 + 1))), .int (xs (Int32.toNatClampNeg (x3 + 2)))]) (rest := [.int r]) C (wM_ad cI cZ g) (mX9_owner l D cI cZ g (xs (Int32.toNatClampNeg (x3 + 1))) (xs (Int32.toNatClampNeg (x3 + 2))) MM r MM1 hM) calX9_owner cavX9_owner (mU3 128 rfl rfl) hst.2.1 hst.1 hst.2.2.1.symm hst.2.2.2 hl.1 0 9 rfl rfl rfl rfl (Nat.le_of_ble_eq_true rfl) ⟨Nat.le_of_ble_eq_true rfl, Nat.le_of_ble_eq_true rfl⟩ ⟨Nat.le_refl _, Nat.le_refl _⟩ dL_law_137 (fun H locs g1 g2 g3 g4 => ?_)
  have hst : TwS D cI cZ a g s H locs MB1 MM1 := ⟨g2, g1, g3.symm, g4⟩
  refine lv_icmp_eq (tgt := 660) hx hb dL_law_140 (by decide) (fun _ => ?_) (fun h => absurd rfl h)
  exact hn MB1 MM1 H locs ls hR hst hl
set_option maxHeartbeats 4000000 in
set_option maxRecDepth 100000 in
theorem law_1 {p : Program} {l : Launch} {e : Env} {s : State} {m : MethodId} {below : List Frame} {meth : Method} {c : Code} {D : va_G} {cI cZ : ClassId} {a g : Nat → Nat} {b L : Nat} {xs : Nat → Int32} (C : Cx p s m #[Value.ref b] meth c cL_law 4 RL ret D cI cZ (AL s)) (hX : va_X b L xs s s.heap) (hbl : b < s.heap.size) {Rel : Mem → Mem → Prop} (hop : Op5 Rel fX8_share fX9_share) {x3 : Int32} (hi1 : vp_in (x3 + 1) L) (hi2 : vp_in (x3 + 2) L) (hi3 : vp_in (x3 + 3) L) (hi4 : vp_in (x3 + 4) L) (hi5 : vp_in (x3 + 5) L) (MB MM : Mem) (hR : Rel MB MM) (H : Heap) (locs : List Loc) (ls : Array Slot) (hst : TwS D cI cZ a g s H locs MB MM) (hl : lv_has ls 4 [(0, .ref b), (1, .ref (a 0)), (2, .ref (g 0)), (3, .int x3)]) (hn : ∀ (MB MM : Mem) (H : Heap) (locs : List Loc) (ls : Array Slot), Rel MB MM → TwS D cI cZ a g s H locs MB MM → lv_has ls 4 [(0, .ref b), (1, .ref (a 0)), (2, .ref (g 0)), (3, .int x3)] → WLw p l e s m b below meth c H locs (F0 m 660 ls [])) : WLw p l e s m b below meth c H locs (F0 m 145 ls []) := by
  obtain ⟨hx, hb, hml, hown, hU, hr, hlk, hK, hA⟩ := id C
  have hbA : ¬ AL s b := Nat.not_le.mpr hbl
  refine lv_aload_n hx hb dL_law_145 rfl (lv_at hl 1 rfl) ?_
  refine lv_aload_n hx hb dL_law_146 rfl (lv_at hl 0 rfl) ?_
  refine lv_iload_n hx hb dL_law_147 rfl (lv_at hl 3 rfl) ?_
  refine lv_iconst (v := 1) hx hb dL_law_148 (by decide) ?_
  refine lv_iadd hx hb dL_law_149 ?_
  refine va_sld hx hb hX hbl hbA hst.2.2.2 hi1 dL_law_150 ?_
  refine lv_aload_n hx hb dL_law_151 rfl (lv_at hl 0 rfl) ?_
  refine lv_iload_n hx hb dL_law_152 rfl (lv_at hl 3 rfl) ?_
  refine lv_iconst (v := 2) hx hb dL_law_153 (by decide) ?_
  refine lv_iadd hx hb dL_law_154 ?_
  refine va_sld hx hb hX hbl hbA hst.2.2.2 hi2 dL_law_155 ?_
  refine lv_aload_n hx hb dL_law_156 rfl (lv_at hl 0 rfl) ?_
  refine lv_iload_n hx hb dL_law_157 rfl (lv_at hl 3 rfl) ?_
  refine lv_iconst (v := 3) hx hb dL_law_158 (by decide) ?_
  refine lv_iadd hx hb dL_law_159 ?_
  refine va_sld hx hb hX hbl hbA hst.2.2.2 hi3 dL_law_160 ?_
  refine lv_aload_n hx hb dL_law_161 rfl (lv_at hl 0 rfl) ?_
  refine lv_iload_n hx hb dL_law_162 rfl (lv_at hl 3 rfl) ?_
  refine lv_iconst (v := 4) hx hb dL_law_163 (by decide) ?_
  refine lv_iadd hx hb dL_law_164 ?_
  refine va_sld hx hb hX hbl hbA hst.2.2.2 hi4 dL_law_165 ?_
  refine lv_aload_n hx hb dL_law_166 rfl (lv_at hl 0 rfl) ?_
  refine lv_iload_n hx hb dL_law_167 rfl (lv_at hl 3 rfl) ?_
  refine lv_iconst (v := 5) hx hb dL_law_168 (by decide) ?_
  refine lv_iadd hx hb dL_law_169 ?_
  refine va_sld hx hb hX hbl hbA hst.2.2.2 hi5 dL_law_170 ?_
  obtain ⟨r, MB1, MM1, hB, hM, hR⟩ := hop MB MM hR (xs (Int32.toNatClampNeg (x3 + 1))) (xs (Int32.toNatClampNeg (x3 + 2))) (xs (Int32.toNatClampNeg (x3 + 3))) (xs (Int32.toNatClampNeg (x3 + 4))) (xs (Int32.toNatClampNeg (x3 + 5)))
  refine w_c2 (w1 := wB cI cZ a) (w2 := wM cI cZ g) (As := [.int (xs (Int32.toNatClampNeg (x3 + 1))), .int (xs (Int32.toNatClampNeg (x3 + 2))), .int (xs (Int32.toNatClampNeg (x3 + 3))), .int (xs (Int32.toNatClampNeg (x3 + 4))), .int (xs (Int32.toNatClampNeg (x3 + 5)))]) (rest := []) C (wB_ad cI cZ a) (mX8_share l D cI cZ a (xs (Int32.toNatClampNeg (x3 + 1))) (xs (Int32.toNatClampNeg (x3 + 2))) (xs (Int32.toNatClampNeg (x3 + 3))) (xs (Int32.toNatClampNeg (x3 + 4))) (xs (Int32.toNatClampNeg (x3 + 5))) MB r MB1 hB) calX8_share cavX8_share (mU1 211 rfl rfl) hst.1 hst.2.1 hst.2.2.1 hst.2.2.2 hl.1 0 8 rfl rfl rfl rfl (Nat.le_of_ble_eq_true rfl) ⟨Nat.le_of_ble_eq_true rfl, Nat.le_of_ble_eq_true rfl⟩ ⟨Nat.le_refl _, Nat.le_refl _⟩ dL_law_171 (fun H locs g1 g2 g3 g4 => ?_)
  have hst : TwS D cI cZ a g s H locs MB1 MM := ⟨g1, g2, g3, g4⟩
  refine lv_aload_n hx hb dL_law_174 rfl (lv_at hl 2 rfl) ?_
  refine lv_aload_n hx hb dL_law_175 rfl (lv_at hl 0 rfl) ?_
  refine lv_iload_n hx hb dL_law_176 rfl (lv_at hl 3 rfl) ?_
  refine lv_iconst (v := 1) hx hb dL_law_177 (by decide) ?_
  refine lv_iadd hx hb dL_law_178 ?_
  refine va_sld hx hb hX hbl hbA hst.2.2.2 hi1 dL_law_179 ?_
  refine lv_aload_n hx hb dL_law_180 rfl (lv_at hl 0 rfl) ?_
  refine lv_iload_n hx hb dL_law_181 rfl (lv_at hl 3 rfl) ?_
  refine lv_iconst (v := 2) hx hb dL_law_182 (by decide) ?_
  refine lv_iadd hx hb dL_law_183 ?_
  refine va_sld hx hb hX hbl hbA hst.2.2.2 hi2 dL_law_184 ?_
  refine lv_aload_n hx hb dL_law_185 rfl (lv_at hl 0 rfl) ?_
  refine lv_iload_n hx hb dL_law_186 rfl (lv_at hl 3 rfl) ?_
  refine lv_iconst (v := 3) hx hb dL_law_187 (by decide) ?_
  refine lv_iadd hx hb dL_law_188 ?_
  refine va_sld hx hb hX hbl hbA hst.2.2.2 hi3 dL_law_189 ?_
  refine lv_aload_n hx hb dL_law_190 rfl (lv_at hl 0 rfl) ?_
  refine lv_iload_n hx hb dL_law_191 rfl (lv_at hl 3 rfl) ?_
  refine lv_iconst (v := 4) hx hb dL_law_192 (by decide) ?_
  refine lv_iadd hx hb dL_law_193 ?_
  refine va_sld hx hb hX hbl hbA hst.2.2.2 hi4 dL_law_194 ?_
  refine lv_aload_n hx hb dL_law_195 rfl (lv_at hl 0 rfl) ?_
  refine lv_iload_n hx hb dL_law_196 rfl (lv_at hl 3 rfl) ?_
  refine lv_iconst (v := 5) hx hb dL_law_197 (by decide) ?_
  refine lv_iadd hx hb dL_law_198 ?_
  refine va_sld hx hb hX hbl hbA hst.2.2.2 hi5 dL_law_199 ?_
  refine w_c2 (w1 := wM cI cZ g) (w2 := wB cI cZ a) (As := [.int (xs (Int32.toNatClampNeg (x3 + 1))), .int (xs (Int32.toNatClampNeg (x3 + 2))), .int (xs (Int32.toNatClampNeg (x3 + 3))), .int (xs (Int32.toNatClampNeg (x3 + 4))), .int (xs (Int32.toNatClampNeg (x3 + 5)))]) (rest := [.int r]) C (wM_ad cI cZ g) (mX9_share l D cI cZ g (xs (Int32.toNatClampNeg (x3 + 1))) (xs (Int32.toNatClampNeg (x3 + 2))) (xs (Int32.toNatClampNeg (x3 + 3))) (xs (Int32.toNatClampNeg (x3 + 4))) (xs (Int32.toNatClampNeg (x3 + 5))) MM r MM1 hM) calX9_share cavX9_share (mU3 141 rfl rfl) hst.2.1 hst.1 hst.2.2.1.symm hst.2.2.2 hl.1 0 9 rfl rfl rfl rfl (Nat.le_of_ble_eq_true rfl) ⟨Nat.le_of_ble_eq_true rfl, Nat.le_of_ble_eq_true rfl⟩ ⟨Nat.le_refl _, Nat.le_refl _⟩ dL_law_200 (fun H locs g1 g2 g3 g4 => ?_)
  have hst : TwS D cI cZ a g s H locs MB1 MM1 := ⟨g2, g1, g3.symm, g4⟩
  refine lv_icmp_eq (tgt := 660) hx hb dL_law_203 (by decide) (fun _ => ?_) (fun h => absurd rfl h)
  exact hn MB1 MM1 H locs ls hR hst hl
set_option maxHeartbeats 4000000 in
set_option maxRecDepth 100000 in
theorem law_2 {p : Program} {l : Launch} {e : Env} {s : State} {m : MethodId} {below : List Frame} {meth : Method} {c : Code} {D : va_G} {cI cZ : ClassId} {a g : Nat → Nat} {b L : Nat} {xs : Nat → Int32} (C : Cx p s m #[Value.ref b] meth c cL_law 4 RL ret D cI cZ (AL s)) (hX : va_X b L xs s s.heap) (hbl : b < s.heap.size) {Rel : Mem → Mem → Prop} (hop : Op2 Rel fX8_begin fX9_begin) {x3 : Int32} (hi1 : vp_in (x3 + 1) L) (hi2 : vp_in (x3 + 2) L) (hi3 : vp_in (x3 + 3) L) (hi4 : vp_in (x3 + 4) L) (hi5 : vp_in (x3 + 5) L) (MB MM : Mem) (hR : Rel MB MM) (H : Heap) (locs : List Loc) (ls : Array Slot) (hst : TwS D cI cZ a g s H locs MB MM) (hl : lv_has ls 4 [(0, .ref b), (1, .ref (a 0)), (2, .ref (g 0)), (3, .int x3)]) (hn : ∀ (MB MM : Mem) (H : Heap) (locs : List Loc) (ls : Array Slot), Rel MB MM → TwS D cI cZ a g s H locs MB MM → lv_has ls 4 [(0, .ref b), (1, .ref (a 0)), (2, .ref (g 0)), (3, .int x3)] → WLw p l e s m b below meth c H locs (F0 m 660 ls [])) : WLw p l e s m b below meth c H locs (F0 m 208 ls []) := by
  obtain ⟨hx, hb, hml, hown, hU, hr, hlk, hK, hA⟩ := id C
  have hbA : ¬ AL s b := Nat.not_le.mpr hbl
  refine lv_aload_n hx hb dL_law_208 rfl (lv_at hl 1 rfl) ?_
  refine lv_aload_n hx hb dL_law_209 rfl (lv_at hl 0 rfl) ?_
  refine lv_iload_n hx hb dL_law_210 rfl (lv_at hl 3 rfl) ?_
  refine lv_iconst (v := 1) hx hb dL_law_211 (by decide) ?_
  refine lv_iadd hx hb dL_law_212 ?_
  refine va_sld hx hb hX hbl hbA hst.2.2.2 hi1 dL_law_213 ?_
  refine lv_aload_n hx hb dL_law_214 rfl (lv_at hl 0 rfl) ?_
  refine lv_iload_n hx hb dL_law_215 rfl (lv_at hl 3 rfl) ?_
  refine lv_iconst (v := 2) hx hb dL_law_216 (by decide) ?_
  refine lv_iadd hx hb dL_law_217 ?_
  refine va_sld hx hb hX hbl hbA hst.2.2.2 hi2 dL_law_218 ?_
  obtain ⟨r, MB1, MM1, hB, hM, hR⟩ := hop MB MM hR (xs (Int32.toNatClampNeg (x3 + 1))) (xs (Int32.toNatClampNeg (x3 + 2)))
  refine w_c2 (w1 := wB cI cZ a) (w2 := wM cI cZ g) (As := [.int (xs (Int32.toNatClampNeg (x3 + 1))), .int (xs (Int32.toNatClampNeg (x3 + 2)))]) (rest := []) C (wB_ad cI cZ a) (mX8_begin l D cI cZ a (xs (Int32.toNatClampNeg (x3 + 1))) (xs (Int32.toNatClampNeg (x3 + 2))) MB r MB1 hB) calX8_begin cavX8_begin (mU1 222 rfl rfl) hst.1 hst.2.1 hst.2.2.1 hst.2.2.2 hl.1 0 8 rfl rfl rfl rfl (Nat.le_of_ble_eq_true rfl) ⟨Nat.le_of_ble_eq_true rfl, Nat.le_of_ble_eq_true rfl⟩ ⟨Nat.le_refl _, Nat.le_refl _⟩ dL_law_219 (fun H locs g1 g2 g3 g4 => ?_)
  have hst : TwS D cI cZ a g s H locs MB1 MM := ⟨g1, g2, g3, g4⟩
  refine lv_aload_n hx hb dL_law_222 rfl (lv_at hl 2 rfl) ?_
  refine lv_aload_n hx hb dL_law_223 rfl (lv_at hl 0 rfl) ?_
  refine lv_iload_n hx hb dL_law_224 rfl (lv_at hl 3 rfl) ?_
  refine lv_iconst (v := 1) hx hb dL_law_225 (by decide) ?_
  refine lv_iadd hx hb dL_law_226 ?_
  refine va_sld hx hb hX hbl hbA hst.2.2.2 hi1 dL_law_227 ?_
  refine lv_aload_n hx hb dL_law_228 rfl (lv_at hl 0 rfl) ?_
  refine lv_iload_n hx hb dL_law_229 rfl (lv_at hl 3 rfl) ?_
  refine lv_iconst (v := 2) hx hb dL_law_230 (by decide) ?_
  refine lv_iadd hx hb dL_law_231 ?_
  refine va_sld hx hb hX hbl hbA hst.2.2.2 hi2 dL_law_232 ?_
  refine w_c2 (w1 := wM cI cZ g) (w2 := wB cI cZ a) (As := [.int (xs (Int32.toNatClampNeg (x3 + 1))), .int (xs (Int32.toNatClampNeg (x3 + 2)))]) (rest := [.int r]) C (wM_ad cI cZ g) (mX9_begin l D cI cZ g (xs (Int32.toNatClampNeg (x3 + 1))) (xs (Int32.toNatClampNeg (x3 + 2))) MM r MM1 hM) calX9_begin cavX9_begin (mU3 145 rfl rfl) hst.2.1 hst.1 hst.2.2.1.symm hst.2.2.2 hl.1 0 9 rfl rfl rfl rfl (Nat.le_of_ble_eq_true rfl) ⟨Nat.le_of_ble_eq_true rfl, Nat.le_of_ble_eq_true rfl⟩ ⟨Nat.le_refl _, Nat.le_refl _⟩ dL_law_233 (fun H locs g1 g2 g3 g4 => ?_)
  have hst : TwS D cI cZ a g s H locs MB1 MM1 := ⟨g2, g1, g3.symm, g4⟩
  refine lv_icmp_eq (tgt := 660) hx hb dL_law_236 (by decide) (fun _ => ?_) (fun h => absurd rfl h)
  exact hn MB1 MM1 H locs ls hR hst hl
set_option maxHeartbeats 4000000 in
set_option maxRecDepth 100000 in
theorem law_3 {p : Program} {l : Launch} {e : Env} {s : State} {m : MethodId} {below : List Frame} {meth : Method} {c : Code} {D : va_G} {cI cZ : ClassId} {a g : Nat → Nat} {b L : Nat} {xs : Nat → Int32} (C : Cx p s m #[Value.ref b] meth c cL_law 4 RL ret D cI cZ (AL s)) (hX : va_X b L xs s s.heap) (hbl : b < s.heap.size) {Rel : Mem → Mem → Prop} (hop : Op1 Rel fX8_stop fX9_stop) {x3 : Int32} (hi1 : vp_in (x3 + 1) L) (hi2 : vp_in (x3 + 2) L) (hi3 : vp_in (x3 + 3) L) (hi4 : vp_in (x3 + 4) L) (hi5 : vp_in (x3 + 5) L) (MB MM : Mem) (hR : Rel MB MM) (H : Heap) (locs : List Loc) (ls : Array Slot) (hst : TwS D cI cZ a g s H locs MB MM) (hl : lv_has ls 4 [(0, .ref b), (1, .ref (a 0)), (2, .ref (g 0)), (3, .int x3)]) (hn : ∀ (MB MM : Mem) (H : Heap) (locs : List Loc) (ls : Array Slot), Rel MB MM → TwS D cI cZ a g s H locs MB MM → lv_has ls 4 [(0, .ref b), (1, .ref (a 0)), (2, .ref (g 0)), (3, .int x3)] → WLw p l e s m b below meth c H locs (F0 m 660 ls [])) : WLw p l e s m b below meth c H locs (F0 m 241 ls []) := by
  obtain ⟨hx, hb, hml, hown, hU, hr, hlk, hK, hA⟩ := id C
  have hbA : ¬ AL s b := Nat.not_le.mpr hbl
  refine lv_aload_n hx hb dL_law_241 rfl (lv_at hl 1 rfl) ?_
  refine lv_aload_n hx hb dL_law_242 rfl (lv_at hl 0 rfl) ?_
  refine lv_iload_n hx hb dL_law_243 rfl (lv_at hl 3 rfl) ?_
  refine lv_iconst (v := 1) hx hb dL_law_244 (by decide) ?_
  refine lv_iadd hx hb dL_law_245 ?_
  refine va_sld hx hb hX hbl hbA hst.2.2.2 hi1 dL_law_246 ?_
  obtain ⟨r, MB1, MM1, hB, hM, hR⟩ := hop MB MM hR (xs (Int32.toNatClampNeg (x3 + 1)))
  refine w_c2 (w1 := wB cI cZ a) (w2 := wM cI cZ g) (As := [.int (xs (Int32.toNatClampNeg (x3 + 1)))]) (rest := []) C (wB_ad cI cZ a) (mX8_stop l D cI cZ a (xs (Int32.toNatClampNeg (x3 + 1))) MB r MB1 hB) calX8_stop cavX8_stop (mU2 2 rfl rfl) hst.1 hst.2.1 hst.2.2.1 hst.2.2.2 hl.1 0 8 rfl rfl rfl rfl (Nat.le_of_ble_eq_true rfl) ⟨Nat.le_of_ble_eq_true rfl, Nat.le_of_ble_eq_true rfl⟩ ⟨Nat.le_refl _, Nat.le_refl _⟩ dL_law_247 (fun H locs g1 g2 g3 g4 => ?_)
  have hst : TwS D cI cZ a g s H locs MB1 MM := ⟨g1, g2, g3, g4⟩
  refine lv_aload_n hx hb dL_law_250 rfl (lv_at hl 2 rfl) ?_
  refine lv_aload_n hx hb dL_law_251 rfl (lv_at hl 0 rfl) ?_
  refine lv_iload_n hx hb dL_law_252 rfl (lv_at hl 3 rfl) ?_
  refine lv_iconst (v := 1) hx hb dL_law_253 (by decide) ?_
  refine lv_iadd hx hb dL_law_254 ?_
  refine va_sld hx hb hX hbl hbA hst.2.2.2 hi1 dL_law_255 ?_
  refine w_c2 (w1 := wM cI cZ g) (w2 := wB cI cZ a) (As := [.int (xs (Int32.toNatClampNeg (x3 + 1)))]) (rest := [.int r]) C (wM_ad cI cZ g) (mX9_stop l D cI cZ g (xs (Int32.toNatClampNeg (x3 + 1))) MM r MM1 hM) calX9_stop cavX9_stop (mU3 149 rfl rfl) hst.2.1 hst.1 hst.2.2.1.symm hst.2.2.2 hl.1 0 9 rfl rfl rfl rfl (Nat.le_of_ble_eq_true rfl) ⟨Nat.le_of_ble_eq_true rfl, Nat.le_of_ble_eq_true rfl⟩ ⟨Nat.le_refl _, Nat.le_refl _⟩ dL_law_256 (fun H locs g1 g2 g3 g4 => ?_)
  have hst : TwS D cI cZ a g s H locs MB1 MM1 := ⟨g2, g1, g3.symm, g4⟩
  refine lv_icmp_eq (tgt := 660) hx hb dL_law_259 (by decide) (fun _ => ?_) (fun h => absurd rfl h)
  exact hn MB1 MM1 H locs ls hR hst hl
set_option maxHeartbeats 4000000 in
set_option maxRecDepth 100000 in
theorem law_4 {p : Program} {l : Launch} {e : Env} {s : State} {m : MethodId} {below : List Frame} {meth : Method} {c : Code} {D : va_G} {cI cZ : ClassId} {a g : Nat → Nat} {b L : Nat} {xs : Nat → Int32} (C : Cx p s m #[Value.ref b] meth c cL_law 4 RL ret D cI cZ (AL s)) (hX : va_X b L xs s s.heap) (hbl : b < s.heap.size) {Rel : Mem → Mem → Prop} (hop : Op2 Rel fX8_use fX9_use) {x3 : Int32} (hi1 : vp_in (x3 + 1) L) (hi2 : vp_in (x3 + 2) L) (hi3 : vp_in (x3 + 3) L) (hi4 : vp_in (x3 + 4) L) (hi5 : vp_in (x3 + 5) L) (MB MM : Mem) (hR : Rel MB MM) (H : Heap) (locs : List Loc) (ls : Array Slot) (hst : TwS D cI cZ a g s H locs MB MM) (hl : lv_has ls 4 [(0, .ref b), (1, .ref (a 0)), (2, .ref (g 0)), (3, .int x3)]) (hn : ∀ (MB MM : Mem) (H : Heap) (locs : List Loc) (ls : Array Slot), Rel MB MM → TwS D cI cZ a g s H locs MB MM → lv_has ls 4 [(0, .ref b), (1, .ref (a 0)), (2, .ref (g 0)), (3, .int x3)] → WLw p l e s m b below meth c H locs (F0 m 660 ls [])) : WLw p l e s m b below meth c H locs (F0 m 264 ls []) := by
  obtain ⟨hx, hb, hml, hown, hU, hr, hlk, hK, hA⟩ := id C
  have hbA : ¬ AL s b := Nat.not_le.mpr hbl
  refine lv_aload_n hx hb dL_law_264 rfl (lv_at hl 1 rfl) ?_
  refine lv_aload_n hx hb dL_law_265 rfl (lv_at hl 0 rfl) ?_
  refine lv_iload_n hx hb dL_law_266 rfl (lv_at hl 3 rfl) ?_
  refine lv_iconst (v := 1) hx hb dL_law_267 (by decide) ?_
  refine lv_iadd hx hb dL_law_268 ?_
  refine va_sld hx hb hX hbl hbA hst.2.2.2 hi1 dL_law_269 ?_
  refine lv_aload_n hx hb dL_law_270 rfl (lv_at hl 0 rfl) ?_
  refine lv_iload_n hx hb dL_law_271 rfl (lv_at hl 3 rfl) ?_
  refine lv_iconst (v := 2) hx hb dL_law_272 (by decide) ?_
  refine lv_iadd hx hb dL_law_273 ?_
  refine va_sld hx hb hX hbl hbA hst.2.2.2 hi2 dL_law_274 ?_
  obtain ⟨r, MB1, MM1, hB, hM, hR⟩ := hop MB MM hR (xs (Int32.toNatClampNeg (x3 + 1))) (xs (Int32.toNatClampNeg (x3 + 2)))
  refine w_c2 (w1 := wB cI cZ a) (w2 := wM cI cZ g) (As := [.int (xs (Int32.toNatClampNeg (x3 + 1))), .int (xs (Int32.toNatClampNeg (x3 + 2)))]) (rest := []) C (wB_ad cI cZ a) (mX8_use l D cI cZ a (xs (Int32.toNatClampNeg (x3 + 1))) (xs (Int32.toNatClampNeg (x3 + 2))) MB r MB1 hB) calX8_use cavX8_use (mU2 26 rfl rfl) hst.1 hst.2.1 hst.2.2.1 hst.2.2.2 hl.1 0 8 rfl rfl rfl rfl (Nat.le_of_ble_eq_true rfl) ⟨Nat.le_of_ble_eq_true rfl, Nat.le_of_ble_eq_true rfl⟩ ⟨Nat.le_refl _, Nat.le_refl _⟩ dL_law_275 (fun H locs g1 g2 g3 g4 => ?_)
  have hst : TwS D cI cZ a g s H locs MB1 MM := ⟨g1, g2, g3, g4⟩
  refine lv_aload_n hx hb dL_law_278 rfl (lv_at hl 2 rfl) ?_
  refine lv_aload_n hx hb dL_law_279 rfl (lv_at hl 0 rfl) ?_
  refine lv_iload_n hx hb dL_law_280 rfl (lv_at hl 3 rfl) ?_
  refine lv_iconst (v := 1) hx hb dL_law_281 (by decide) ?_
  refine lv_iadd hx hb dL_law_282 ?_
  refine va_sld hx hb hX hbl hbA hst.2.2.2 hi1 dL_law_283 ?_
  refine lv_aload_n hx hb dL_law_284 rfl (lv_at hl 0 rfl) ?_
  refine lv_iload_n hx hb dL_law_285 rfl (lv_at hl 3 rfl) ?_
  refine lv_iconst (v := 2) hx hb dL_law_286 (by decide) ?_
  refine lv_iadd hx hb dL_law_287 ?_
  refine va_sld hx hb hX hbl hbA hst.2.2.2 hi2 dL_law_288 ?_
  refine w_c2 (w1 := wM cI cZ g) (w2 := wB cI cZ a) (As := [.int (xs (Int32.toNatClampNeg (x3 + 1))), .int (xs (Int32.toNatClampNeg (x3 + 2)))]) (rest := [.int r]) C (wM_ad cI cZ g) (mX9_use l D cI cZ g (xs (Int32.toNatClampNeg (x3 + 1))) (xs (Int32.toNatClampNeg (x3 + 2))) MM r MM1 hM) calX9_use cavX9_use (mU3 157 rfl rfl) hst.2.1 hst.1 hst.2.2.1.symm hst.2.2.2 hl.1 0 9 rfl rfl rfl rfl (Nat.le_of_ble_eq_true rfl) ⟨Nat.le_of_ble_eq_true rfl, Nat.le_of_ble_eq_true rfl⟩ ⟨Nat.le_refl _, Nat.le_refl _⟩ dL_law_289 (fun H locs g1 g2 g3 g4 => ?_)
  have hst : TwS D cI cZ a g s H locs MB1 MM1 := ⟨g2, g1, g3.symm, g4⟩
  refine lv_icmp_eq (tgt := 660) hx hb dL_law_292 (by decide) (fun _ => ?_) (fun h => absurd rfl h)
  exact hn MB1 MM1 H locs ls hR hst hl
set_option maxHeartbeats 4000000 in
set_option maxRecDepth 100000 in
theorem law_5 {p : Program} {l : Launch} {e : Env} {s : State} {m : MethodId} {below : List Frame} {meth : Method} {c : Code} {D : va_G} {cI cZ : ClassId} {a g : Nat → Nat} {b L : Nat} {xs : Nat → Int32} (C : Cx p s m #[Value.ref b] meth c cL_law 4 RL ret D cI cZ (AL s)) (hX : va_X b L xs s s.heap) (hbl : b < s.heap.size) {Rel : Mem → Mem → Prop} (hop : Op1 Rel fX8_floor fX9_floor) {x3 : Int32} (hi1 : vp_in (x3 + 1) L) (hi2 : vp_in (x3 + 2) L) (hi3 : vp_in (x3 + 3) L) (hi4 : vp_in (x3 + 4) L) (hi5 : vp_in (x3 + 5) L) (MB MM : Mem) (hR : Rel MB MM) (H : Heap) (locs : List Loc) (ls : Array Slot) (hst : TwS D cI cZ a g s H locs MB MM) (hl : lv_has ls 4 [(0, .ref b), (1, .ref (a 0)), (2, .ref (g 0)), (3, .int x3)]) (hn : ∀ (MB MM : Mem) (H : Heap) (locs : List Loc) (ls : Array Slot), Rel MB MM → TwS D cI cZ a g s H locs MB MM → lv_has ls 4 [(0, .ref b), (1, .ref (a 0)), (2, .ref (g 0)), (3, .int x3)] → WLw p l e s m b below meth c H locs (F0 m 660 ls [])) : WLw p l e s m b below meth c H locs (F0 m 297 ls []) := by
  obtain ⟨hx, hb, hml, hown, hU, hr, hlk, hK, hA⟩ := id C
  have hbA : ¬ AL s b := Nat.not_le.mpr hbl
  refine lv_aload_n hx hb dL_law_297 rfl (lv_at hl 1 rfl) ?_
  refine lv_aload_n hx hb dL_law_298 rfl (lv_at hl 0 rfl) ?_
  refine lv_iload_n hx hb dL_law_299 rfl (lv_at hl 3 rfl) ?_
  refine lv_iconst (v := 1) hx hb dL_law_300 (by decide) ?_
  refine lv_iadd hx hb dL_law_301 ?_
  refine va_sld hx hb hX hbl hbA hst.2.2.2 hi1 dL_law_302 ?_
  obtain ⟨r, MB1, MM1, hB, hM, hR⟩ := hop MB MM hR (xs (Int32.toNatClampNeg (x3 + 1)))
  refine w_c2 (w1 := wB cI cZ a) (w2 := wM cI cZ g) (As := [.int (xs (Int32.toNatClampNeg (x3 + 1)))]) (rest := []) C (wB_ad cI cZ a) (mX8_floor l D cI cZ a (xs (Int32.toNatClampNeg (x3 + 1))) MB r MB1 hB) calX8_floor cavX8_floor (mU2 39 rfl rfl) hst.1 hst.2.1 hst.2.2.1 hst.2.2.2 hl.1 0 8 rfl rfl rfl rfl (Nat.le_of_ble_eq_true rfl) ⟨Nat.le_of_ble_eq_true rfl, Nat.le_of_ble_eq_true rfl⟩ ⟨Nat.le_refl _, Nat.le_refl _⟩ dL_law_303 (fun H locs g1 g2 g3 g4 => ?_)
  have hst : TwS D cI cZ a g s H locs MB1 MM := ⟨g1, g2, g3, g4⟩
  refine lv_aload_n hx hb dL_law_306 rfl (lv_at hl 2 rfl) ?_
  refine lv_aload_n hx hb dL_law_307 rfl (lv_at hl 0 rfl) ?_
  refine lv_iload_n hx hb dL_law_308 rfl (lv_at hl 3 rfl) ?_
  refine lv_iconst (v := 1) hx hb dL_law_309 (by decide) ?_
  refine lv_iadd hx hb dL_law_310 ?_
  refine va_sld hx hb hX hbl hbA hst.2.2.2 hi1 dL_law_311 ?_
  refine w_c2 (w1 := wM cI cZ g) (w2 := wB cI cZ a) (As := [.int (xs (Int32.toNatClampNeg (x3 + 1)))]) (rest := [.int r]) C (wM_ad cI cZ g) (mX9_floor l D cI cZ g (xs (Int32.toNatClampNeg (x3 + 1))) MM r MM1 hM) calX9_floor cavX9_floor (mU3 162 rfl rfl) hst.2.1 hst.1 hst.2.2.1.symm hst.2.2.2 hl.1 0 9 rfl rfl rfl rfl (Nat.le_of_ble_eq_true rfl) ⟨Nat.le_of_ble_eq_true rfl, Nat.le_of_ble_eq_true rfl⟩ ⟨Nat.le_refl _, Nat.le_refl _⟩ dL_law_312 (fun H locs g1 g2 g3 g4 => ?_)
  have hst : TwS D cI cZ a g s H locs MB1 MM1 := ⟨g2, g1, g3.symm, g4⟩
  refine lv_icmp_eq (tgt := 660) hx hb dL_law_315 (by decide) (fun _ => ?_) (fun h => absurd rfl h)
  exact hn MB1 MM1 H locs ls hR hst hl
set_option maxHeartbeats 4000000 in
set_option maxRecDepth 100000 in
theorem law_6 {p : Program} {l : Launch} {e : Env} {s : State} {m : MethodId} {below : List Frame} {meth : Method} {c : Code} {D : va_G} {cI cZ : ClassId} {a g : Nat → Nat} {b L : Nat} {xs : Nat → Int32} (C : Cx p s m #[Value.ref b] meth c cL_law 4 RL ret D cI cZ (AL s)) (hX : va_X b L xs s s.heap) (hbl : b < s.heap.size) {Rel : Mem → Mem → Prop} (hop : Op1 Rel fX8_hours fX9_hours) {x3 : Int32} (hi1 : vp_in (x3 + 1) L) (hi2 : vp_in (x3 + 2) L) (hi3 : vp_in (x3 + 3) L) (hi4 : vp_in (x3 + 4) L) (hi5 : vp_in (x3 + 5) L) (MB MM : Mem) (hR : Rel MB MM) (H : Heap) (locs : List Loc) (ls : Array Slot) (hst : TwS D cI cZ a g s H locs MB MM) (hl : lv_has ls 4 [(0, .ref b), (1, .ref (a 0)), (2, .ref (g 0)), (3, .int x3)]) (hn : ∀ (MB MM : Mem) (H : Heap) (locs : List Loc) (ls : Array Slot), Rel MB MM → TwS D cI cZ a g s H locs MB MM → lv_has ls 4 [(0, .ref b), (1, .ref (a 0)), (2, .ref (g 0)), (3, .int x3)] → WLw p l e s m b below meth c H locs (F0 m 660 ls [])) : WLw p l e s m b below meth c H locs (F0 m 320 ls []) := by
  obtain ⟨hx, hb, hml, hown, hU, hr, hlk, hK, hA⟩ := id C
  have hbA : ¬ AL s b := Nat.not_le.mpr hbl
  refine lv_aload_n hx hb dL_law_320 rfl (lv_at hl 1 rfl) ?_
  refine lv_aload_n hx hb dL_law_321 rfl (lv_at hl 0 rfl) ?_
  refine lv_iload_n hx hb dL_law_322 rfl (lv_at hl 3 rfl) ?_
  refine lv_iconst (v := 1) hx hb dL_law_323 (by decide) ?_
  refine lv_iadd hx hb dL_law_324 ?_
  refine va_sld hx hb hX hbl hbA hst.2.2.2 hi1 dL_law_325 ?_
  obtain ⟨r, MB1, MM1, hB, hM, hR⟩ := hop MB MM hR (xs (Int32.toNatClampNeg (x3 + 1)))
  refine w_c2 (w1 := wB cI cZ a) (w2 := wM cI cZ g) (As := [.int (xs (Int32.toNatClampNeg (x3 + 1)))]) (rest := []) C (wB_ad cI cZ a) (mX8_hours l D cI cZ a (xs (Int32.toNatClampNeg (x3 + 1))) MB r MB1 hB) calX8_hours cavX8_hours (mU2 43 rfl rfl) hst.1 hst.2.1 hst.2.2.1 hst.2.2.2 hl.1 0 8 rfl rfl rfl rfl (Nat.le_of_ble_eq_true rfl) ⟨Nat.le_of_ble_eq_true rfl, Nat.le_of_ble_eq_true rfl⟩ ⟨Nat.le_refl _, Nat.le_refl _⟩ dL_law_326 (fun H locs g1 g2 g3 g4 => ?_)
  have hst : TwS D cI cZ a g s H locs MB1 MM := ⟨g1, g2, g3, g4⟩
  refine lv_aload_n hx hb dL_law_329 rfl (lv_at hl 2 rfl) ?_
  refine lv_aload_n hx hb dL_law_330 rfl (lv_at hl 0 rfl) ?_
  refine lv_iload_n hx hb dL_law_331 rfl (lv_at hl 3 rfl) ?_
  refine lv_iconst (v := 1) hx hb dL_law_332 (by decide) ?_
  refine lv_iadd hx hb dL_law_333 ?_
  refine va_sld hx hb hX hbl hbA hst.2.2.2 hi1 dL_law_334 ?_
  refine w_c2 (w1 := wM cI cZ g) (w2 := wB cI cZ a) (As := [.int (xs (Int32.toNatClampNeg (x3 + 1)))]) (rest := [.int r]) C (wM_ad cI cZ g) (mX9_hours l D cI cZ g (xs (Int32.toNatClampNeg (x3 + 1))) MM r MM1 hM) calX9_hours cavX9_hours (mU3 208 rfl rfl) hst.2.1 hst.1 hst.2.2.1.symm hst.2.2.2 hl.1 0 9 rfl rfl rfl rfl (Nat.le_of_ble_eq_true rfl) ⟨Nat.le_of_ble_eq_true rfl, Nat.le_of_ble_eq_true rfl⟩ ⟨Nat.le_refl _, Nat.le_refl _⟩ dL_law_335 (fun H locs g1 g2 g3 g4 => ?_)
  have hst : TwS D cI cZ a g s H locs MB1 MM1 := ⟨g2, g1, g3.symm, g4⟩
  refine lv_icmp_eq (tgt := 660) hx hb dL_law_338 (by decide) (fun _ => ?_) (fun h => absurd rfl h)
  exact hn MB1 MM1 H locs ls hR hst hl
set_option maxHeartbeats 4000000 in
set_option maxRecDepth 100000 in
theorem law_7 {p : Program} {l : Launch} {e : Env} {s : State} {m : MethodId} {below : List Frame} {meth : Method} {c : Code} {D : va_G} {cI cZ : ClassId} {a g : Nat → Nat} {b L : Nat} {xs : Nat → Int32} (C : Cx p s m #[Value.ref b] meth c cL_law 4 RL ret D cI cZ (AL s)) (hX : va_X b L xs s s.heap) (hbl : b < s.heap.size) {Rel : Mem → Mem → Prop} (hop : Op1 Rel fX8_look fX9_look) {x3 : Int32} (hi1 : vp_in (x3 + 1) L) (hi2 : vp_in (x3 + 2) L) (hi3 : vp_in (x3 + 3) L) (hi4 : vp_in (x3 + 4) L) (hi5 : vp_in (x3 + 5) L) (MB MM : Mem) (hR : Rel MB MM) (H : Heap) (locs : List Loc) (ls : Array Slot) (hst : TwS D cI cZ a g s H locs MB MM) (hl : lv_has ls 4 [(0, .ref b), (1, .ref (a 0)), (2, .ref (g 0)), (3, .int x3)]) (hn : ∀ (MB MM : Mem) (H : Heap) (locs : List Loc) (ls : Array Slot), Rel MB MM → TwS D cI cZ a g s H locs MB MM → lv_has ls 4 [(0, .ref b), (1, .ref (a 0)), (2, .ref (g 0)), (3, .int x3)] → WLw p l e s m b below meth c H locs (F0 m 660 ls [])) : WLw p l e s m b below meth c H locs (F0 m 343 ls []) := by
  obtain ⟨hx, hb, hml, hown, hU, hr, hlk, hK, hA⟩ := id C
  have hbA : ¬ AL s b := Nat.not_le.mpr hbl
  refine lv_aload_n hx hb dL_law_343 rfl (lv_at hl 1 rfl) ?_
  refine lv_aload_n hx hb dL_law_344 rfl (lv_at hl 0 rfl) ?_
  refine lv_iload_n hx hb dL_law_345 rfl (lv_at hl 3 rfl) ?_
  refine lv_iconst (v := 1) hx hb dL_law_346 (by decide) ?_
  refine lv_iadd hx hb dL_law_347 ?_
  refine va_sld hx hb hX hbl hbA hst.2.2.2 hi1 dL_law_348 ?_
  obtain ⟨r, MB1, MM1, hB, hM, hR⟩ := hop MB MM hR (xs (Int32.toNatClampNeg (x3 + 1)))
  refine w_c2 (w1 := wB cI cZ a) (w2 := wM cI cZ g) (As := [.int (xs (Int32.toNatClampNeg (x3 + 1)))]) (rest := []) C (wB_ad cI cZ a) (mX8_look l D cI cZ a (xs (Int32.toNatClampNeg (x3 + 1))) MB r MB1 hB) calX8_look cavX8_look (mU2 111 rfl rfl) hst.1 hst.2.1 hst.2.2.1 hst.2.2.2 hl.1 0 8 rfl rfl rfl rfl (Nat.le_of_ble_eq_true rfl) ⟨Nat.le_of_ble_eq_true rfl, Nat.le_of_ble_eq_true rfl⟩ ⟨Nat.le_refl _, Nat.le_refl _⟩ dL_law_349 (fun H locs g1 g2 g3 g4 => ?_)
  have hst : TwS D cI cZ a g s H locs MB1 MM := ⟨g1, g2, g3, g4⟩
  refine lv_aload_n hx hb dL_law_352 rfl (lv_at hl 2 rfl) ?_
  refine lv_aload_n hx hb dL_law_353 rfl (lv_at hl 0 rfl) ?_
  refine lv_iload_n hx hb dL_law_354 rfl (lv_at hl 3 rfl) ?_
  refine lv_iconst (v := 1) hx hb dL_law_355 (by decide) ?_
  refine lv_iadd hx hb dL_law_356 ?_
  refine va_sld hx hb hX hbl hbA hst.2.2.2 hi1 dL_law_357 ?_
  refine w_c2 (w1 := wM cI cZ g) (w2 := wB cI cZ a) (As := [.int (xs (Int32.toNatClampNeg (x3 + 1)))]) (rest := [.int r]) C (wM_ad cI cZ g) (mX9_look l D cI cZ g (xs (Int32.toNatClampNeg (x3 + 1))) MM r MM1 hM) calX9_look cavX9_look (mU3 224 rfl rfl) hst.2.1 hst.1 hst.2.2.1.symm hst.2.2.2 hl.1 0 9 rfl rfl rfl rfl (Nat.le_of_ble_eq_true rfl) ⟨Nat.le_of_ble_eq_true rfl, Nat.le_of_ble_eq_true rfl⟩ ⟨Nat.le_refl _, Nat.le_refl _⟩ dL_law_358 (fun H locs g1 g2 g3 g4 => ?_)
  have hst : TwS D cI cZ a g s H locs MB1 MM1 := ⟨g2, g1, g3.symm, g4⟩
  refine lv_icmp_eq (tgt := 660) hx hb dL_law_361 (by decide) (fun _ => ?_) (fun h => absurd rfl h)
  exact hn MB1 MM1 H locs ls hR hst hl
set_option maxHeartbeats 4000000 in
set_option maxRecDepth 100000 in
theorem law_8 {p : Program} {l : Launch} {e : Env} {s : State} {m : MethodId} {below : List Frame} {meth : Method} {c : Code} {D : va_G} {cI cZ : ClassId} {a g : Nat → Nat} {b L : Nat} {xs : Nat → Int32} (C : Cx p s m #[Value.ref b] meth c cL_law 4 RL ret D cI cZ (AL s)) (hX : va_X b L xs s s.heap) (hbl : b < s.heap.size) {Rel : Mem → Mem → Prop} (hop : Op2 Rel fX8_machine fX9_machine) {x3 : Int32} (hi1 : vp_in (x3 + 1) L) (hi2 : vp_in (x3 + 2) L) (hi3 : vp_in (x3 + 3) L) (hi4 : vp_in (x3 + 4) L) (hi5 : vp_in (x3 + 5) L) (MB MM : Mem) (hR : Rel MB MM) (H : Heap) (locs : List Loc) (ls : Array Slot) (hst : TwS D cI cZ a g s H locs MB MM) (hl : lv_has ls 4 [(0, .ref b), (1, .ref (a 0)), (2, .ref (g 0)), (3, .int x3)]) (hn : ∀ (MB MM : Mem) (H : Heap) (locs : List Loc) (ls : Array Slot), Rel MB MM → TwS D cI cZ a g s H locs MB MM → lv_has ls 4 [(0, .ref b), (1, .ref (a 0)), (2, .ref (g 0)), (3, .int x3)] → WLw p l e s m b below meth c H locs (F0 m 660 ls [])) : WLw p l e s m b below meth c H locs (F0 m 366 ls []) := by
  obtain ⟨hx, hb, hml, hown, hU, hr, hlk, hK, hA⟩ := id C
  have hbA : ¬ AL s b := Nat.not_le.mpr hbl
  refine lv_aload_n hx hb dL_law_366 rfl (lv_at hl 1 rfl) ?_
  refine lv_aload_n hx hb dL_law_367 rfl (lv_at hl 0 rfl) ?_
  refine lv_iload_n hx hb dL_law_368 rfl (lv_at hl 3 rfl) ?_
  refine lv_iconst (v := 1) hx hb dL_law_369 (by decide) ?_
  refine lv_iadd hx hb dL_law_370 ?_
  refine va_sld hx hb hX hbl hbA hst.2.2.2 hi1 dL_law_371 ?_
  refine lv_aload_n hx hb dL_law_372 rfl (lv_at hl 0 rfl) ?_
  refine lv_iload_n hx hb dL_law_373 rfl (lv_at hl 3 rfl) ?_
  refine lv_iconst (v := 2) hx hb dL_law_374 (by decide) ?_
  refine lv_iadd hx hb dL_law_375 ?_
  refine va_sld hx hb hX hbl hbA hst.2.2.2 hi2 dL_law_376 ?_
  obtain ⟨r, MB1, MM1, hB, hM, hR⟩ := hop MB MM hR (xs (Int32.toNatClampNeg (x3 + 1))) (xs (Int32.toNatClampNeg (x3 + 2)))
  refine w_c2 (w1 := wB cI cZ a) (w2 := wM cI cZ g) (As := [.int (xs (Int32.toNatClampNeg (x3 + 1))), .int (xs (Int32.toNatClampNeg (x3 + 2)))]) (rest := []) C (wB_ad cI cZ a) (mX8_machine l D cI cZ a (xs (Int32.toNatClampNeg (x3 + 1))) (xs (Int32.toNatClampNeg (x3 + 2))) MB r MB1 hB) calX8_machine cavX8_machine (mU2 131 rfl rfl) hst.1 hst.2.1 hst.2.2.1 hst.2.2.2 hl.1 0 8 rfl rfl rfl rfl (Nat.le_of_ble_eq_true rfl) ⟨Nat.le_of_ble_eq_true rfl, Nat.le_of_ble_eq_true rfl⟩ ⟨Nat.le_refl _, Nat.le_refl _⟩ dL_law_377 (fun H locs g1 g2 g3 g4 => ?_)
  have hst : TwS D cI cZ a g s H locs MB1 MM := ⟨g1, g2, g3, g4⟩
  refine lv_aload_n hx hb dL_law_380 rfl (lv_at hl 2 rfl) ?_
  refine lv_aload_n hx hb dL_law_381 rfl (lv_at hl 0 rfl) ?_
  refine lv_iload_n hx hb dL_law_382 rfl (lv_at hl 3 rfl) ?_
  refine lv_iconst (v := 1) hx hb dL_law_383 (by decide) ?_
  refine lv_iadd hx hb dL_law_384 ?_
  refine va_sld hx hb hX hbl hbA hst.2.2.2 hi1 dL_law_385 ?_
  refine lv_aload_n hx hb dL_law_386 rfl (lv_at hl 0 rfl) ?_
  refine lv_iload_n hx hb dL_law_387 rfl (lv_at hl 3 rfl) ?_
  refine lv_iconst (v := 2) hx hb dL_law_388 (by decide) ?_
  refine lv_iadd hx hb dL_law_389 ?_
  refine va_sld hx hb hX hbl hbA hst.2.2.2 hi2 dL_law_390 ?_
  refine w_c2 (w1 := wM cI cZ g) (w2 := wB cI cZ a) (As := [.int (xs (Int32.toNatClampNeg (x3 + 1))), .int (xs (Int32.toNatClampNeg (x3 + 2)))]) (rest := [.int r]) C (wM_ad cI cZ g) (mX9_machine l D cI cZ g (xs (Int32.toNatClampNeg (x3 + 1))) (xs (Int32.toNatClampNeg (x3 + 2))) MM r MM1 hM) calX9_machine cavX9_machine (mU3 228 rfl rfl) hst.2.1 hst.1 hst.2.2.1.symm hst.2.2.2 hl.1 0 9 rfl rfl rfl rfl (Nat.le_of_ble_eq_true rfl) ⟨Nat.le_of_ble_eq_true rfl, Nat.le_of_ble_eq_true rfl⟩ ⟨Nat.le_refl _, Nat.le_refl _⟩ dL_law_391 (fun H locs g1 g2 g3 g4 => ?_)
  have hst : TwS D cI cZ a g s H locs MB1 MM1 := ⟨g2, g1, g3.symm, g4⟩
  refine lv_icmp_eq (tgt := 660) hx hb dL_law_394 (by decide) (fun _ => ?_) (fun h => absurd rfl h)
  exact hn MB1 MM1 H locs ls hR hst hl
set_option maxHeartbeats 4000000 in
set_option maxRecDepth 100000 in
theorem law_9 {p : Program} {l : Launch} {e : Env} {s : State} {m : MethodId} {below : List Frame} {meth : Method} {c : Code} {D : va_G} {cI cZ : ClassId} {a g : Nat → Nat} {b L : Nat} {xs : Nat → Int32} (C : Cx p s m #[Value.ref b] meth c cL_law 4 RL ret D cI cZ (AL s)) (hX : va_X b L xs s s.heap) (hbl : b < s.heap.size) {Rel : Mem → Mem → Prop} (hop : Op2 Rel fX8_cost fX9_cost) {x3 : Int32} (hi1 : vp_in (x3 + 1) L) (hi2 : vp_in (x3 + 2) L) (hi3 : vp_in (x3 + 3) L) (hi4 : vp_in (x3 + 4) L) (hi5 : vp_in (x3 + 5) L) (MB MM : Mem) (hR : Rel MB MM) (H : Heap) (locs : List Loc) (ls : Array Slot) (hst : TwS D cI cZ a g s H locs MB MM) (hl : lv_has ls 4 [(0, .ref b), (1, .ref (a 0)), (2, .ref (g 0)), (3, .int x3)]) (hn : ∀ (MB MM : Mem) (H : Heap) (locs : List Loc) (ls : Array Slot), Rel MB MM → TwS D cI cZ a g s H locs MB MM → lv_has ls 4 [(0, .ref b), (1, .ref (a 0)), (2, .ref (g 0)), (3, .int x3)] → WLw p l e s m b below meth c H locs (F0 m 660 ls [])) : WLw p l e s m b below meth c H locs (F0 m 399 ls []) := by
  obtain ⟨hx, hb, hml, hown, hU, hr, hlk, hK, hA⟩ := id C
  have hbA : ¬ AL s b := Nat.not_le.mpr hbl
  refine lv_aload_n hx hb dL_law_399 rfl (lv_at hl 1 rfl) ?_
  refine lv_aload_n hx hb dL_law_400 rfl (lv_at hl 0 rfl) ?_
  refine lv_iload_n hx hb dL_law_401 rfl (lv_at hl 3 rfl) ?_
  refine lv_iconst (v := 1) hx hb dL_law_402 (by decide) ?_
  refine lv_iadd hx hb dL_law_403 ?_
  refine va_sld hx hb hX hbl hbA hst.2.2.2 hi1 dL_law_404 ?_
  refine lv_aload_n hx hb dL_law_405 rfl (lv_at hl 0 rfl) ?_
  refine lv_iload_n hx hb dL_law_406 rfl (lv_at hl 3 rfl) ?_
  refine lv_iconst (v := 2) hx hb dL_law_407 (by decide) ?_
  refine lv_iadd hx hb dL_law_408 ?_
  refine va_sld hx hb hX hbl hbA hst.2.2.2 hi2 dL_law_409 ?_
  obtain ⟨r, MB1, MM1, hB, hM, hR⟩ := hop MB MM hR (xs (Int32.toNatClampNeg (x3 + 1))) (xs (Int32.toNatClampNeg (x3 + 2)))
  refine w_c2 (w1 := wB cI cZ a) (w2 := wM cI cZ g) (As := [.int (xs (Int32.toNatClampNeg (x3 + 1))), .int (xs (Int32.toNatClampNeg (x3 + 2)))]) (rest := []) C (wB_ad cI cZ a) (mX8_cost l D cI cZ a (xs (Int32.toNatClampNeg (x3 + 1))) (xs (Int32.toNatClampNeg (x3 + 2))) MB r MB1 hB) calX8_cost cavX8_cost (mU2 144 rfl rfl) hst.1 hst.2.1 hst.2.2.1 hst.2.2.2 hl.1 0 8 rfl rfl rfl rfl (Nat.le_of_ble_eq_true rfl) ⟨Nat.le_of_ble_eq_true rfl, Nat.le_of_ble_eq_true rfl⟩ ⟨Nat.le_refl _, Nat.le_refl _⟩ dL_law_410 (fun H locs g1 g2 g3 g4 => ?_)
  have hst : TwS D cI cZ a g s H locs MB1 MM := ⟨g1, g2, g3, g4⟩
  refine lv_aload_n hx hb dL_law_413 rfl (lv_at hl 2 rfl) ?_
  refine lv_aload_n hx hb dL_law_414 rfl (lv_at hl 0 rfl) ?_
  refine lv_iload_n hx hb dL_law_415 rfl (lv_at hl 3 rfl) ?_
  refine lv_iconst (v := 1) hx hb dL_law_416 (by decide) ?_
  refine lv_iadd hx hb dL_law_417 ?_
  refine va_sld hx hb hX hbl hbA hst.2.2.2 hi1 dL_law_418 ?_
  refine lv_aload_n hx hb dL_law_419 rfl (lv_at hl 0 rfl) ?_
  refine lv_iload_n hx hb dL_law_420 rfl (lv_at hl 3 rfl) ?_
  refine lv_iconst (v := 2) hx hb dL_law_421 (by decide) ?_
  refine lv_iadd hx hb dL_law_422 ?_
  refine va_sld hx hb hX hbl hbA hst.2.2.2 hi2 dL_law_423 ?_
  refine w_c2 (w1 := wM cI cZ g) (w2 := wB cI cZ a) (As := [.int (xs (Int32.toNatClampNeg (x3 + 1))), .int (xs (Int32.toNatClampNeg (x3 + 2)))]) (rest := [.int r]) C (wM_ad cI cZ g) (mX9_cost l D cI cZ g (xs (Int32.toNatClampNeg (x3 + 1))) (xs (Int32.toNatClampNeg (x3 + 2))) MM r MM1 hM) calX9_cost cavX9_cost (mU3 166 rfl rfl) hst.2.1 hst.1 hst.2.2.1.symm hst.2.2.2 hl.1 0 9 rfl rfl rfl rfl (Nat.le_of_ble_eq_true rfl) ⟨Nat.le_of_ble_eq_true rfl, Nat.le_of_ble_eq_true rfl⟩ ⟨Nat.le_refl _, Nat.le_refl _⟩ dL_law_424 (fun H locs g1 g2 g3 g4 => ?_)
  have hst : TwS D cI cZ a g s H locs MB1 MM1 := ⟨g2, g1, g3.symm, g4⟩
  refine lv_icmp_eq (tgt := 660) hx hb dL_law_427 (by decide) (fun _ => ?_) (fun h => absurd rfl h)
  exact hn MB1 MM1 H locs ls hR hst hl
set_option maxHeartbeats 4000000 in
set_option maxRecDepth 100000 in
theorem law_10 {p : Program} {l : Launch} {e : Env} {s : State} {m : MethodId} {below : List Frame} {meth : Method} {c : Code} {D : va_G} {cI cZ : ClassId} {a g : Nat → Nat} {b L : Nat} {xs : Nat → Int32} (C : Cx p s m #[Value.ref b] meth c cL_law 4 RL ret D cI cZ (AL s)) (hX : va_X b L xs s s.heap) (hbl : b < s.heap.size) {Rel : Mem → Mem → Prop} (hop : Op3 Rel fX8_season fX9_season) {x3 : Int32} (hi1 : vp_in (x3 + 1) L) (hi2 : vp_in (x3 + 2) L) (hi3 : vp_in (x3 + 3) L) (hi4 : vp_in (x3 + 4) L) (hi5 : vp_in (x3 + 5) L) (MB MM : Mem) (hR : Rel MB MM) (H : Heap) (locs : List Loc) (ls : Array Slot) (hst : TwS D cI cZ a g s H locs MB MM) (hl : lv_has ls 4 [(0, .ref b), (1, .ref (a 0)), (2, .ref (g 0)), (3, .int x3)]) (hn : ∀ (MB MM : Mem) (H : Heap) (locs : List Loc) (ls : Array Slot), Rel MB MM → TwS D cI cZ a g s H locs MB MM → lv_has ls 4 [(0, .ref b), (1, .ref (a 0)), (2, .ref (g 0)), (3, .int x3)] → WLw p l e s m b below meth c H locs (F0 m 660 ls [])) : WLw p l e s m b below meth c H locs (F0 m 432 ls []) := by
  obtain ⟨hx, hb, hml, hown, hU, hr, hlk, hK, hA⟩ := id C
  have hbA : ¬ AL s b := Nat.not_le.mpr hbl
  refine lv_aload_n hx hb dL_law_432 rfl (lv_at hl 1 rfl) ?_
  refine lv_aload_n hx hb dL_law_433 rfl (lv_at hl 0 rfl) ?_
  refine lv_iload_n hx hb dL_law_434 rfl (lv_at hl 3 rfl) ?_
  refine lv_iconst (v := 1) hx hb dL_law_435 (by decide) ?_
  refine lv_iadd hx hb dL_law_436 ?_
  refine va_sld hx hb hX hbl hbA hst.2.2.2 hi1 dL_law_437 ?_
  refine lv_aload_n hx hb dL_law_438 rfl (lv_at hl 0 rfl) ?_
  refine lv_iload_n hx hb dL_law_439 rfl (lv_at hl 3 rfl) ?_
  refine lv_iconst (v := 2) hx hb dL_law_440 (by decide) ?_
  refine lv_iadd hx hb dL_law_441 ?_
  refine va_sld hx hb hX hbl hbA hst.2.2.2 hi2 dL_law_442 ?_
  refine lv_aload_n hx hb dL_law_443 rfl (lv_at hl 0 rfl) ?_
  refine lv_iload_n hx hb dL_law_444 rfl (lv_at hl 3 rfl) ?_
  refine lv_iconst (v := 3) hx hb dL_law_445 (by decide) ?_
  refine lv_iadd hx hb dL_law_446 ?_
  refine va_sld hx hb hX hbl hbA hst.2.2.2 hi3 dL_law_447 ?_
  obtain ⟨r, MB1, MM1, hB, hM, hR⟩ := hop MB MM hR (xs (Int32.toNatClampNeg (x3 + 1))) (xs (Int32.toNatClampNeg (x3 + 2))) (xs (Int32.toNatClampNeg (x3 + 3)))
  refine w_c2 (w1 := wB cI cZ a) (w2 := wM cI cZ g) (As := [.int (xs (Int32.toNatClampNeg (x3 + 1))), .int (xs (Int32.toNatClampNeg (x3 + 2))), .int (xs (Int32.toNatClampNeg (x3 + 3)))]) (rest := []) C (wB_ad cI cZ a) (mX8_season l D cI cZ a (xs (Int32.toNatClampNeg (x3 + 1))) (xs (Int32.toNatClampNeg (x3 + 2))) (xs (Int32.toNatClampNeg (x3 + 3))) MB r MB1 hB) calX8_season cavX8_season (mU2 152 rfl rfl) hst.1 hst.2.1 hst.2.2.1 hst.2.2.2 hl.1 0 8 rfl rfl rfl rfl (Nat.le_of_ble_eq_true rfl) ⟨Nat.le_of_ble_eq_true rfl, Nat.le_of_ble_eq_true rfl⟩ ⟨Nat.le_refl _, Nat.le_refl _⟩ dL_law_448 (fun H locs g1 g2 g3 g4 => ?_)
  have hst : TwS D cI cZ a g s H locs MB1 MM := ⟨g1, g2, g3, g4⟩
  refine lv_aload_n hx hb dL_law_451 rfl (lv_at hl 2 rfl) ?_
  refine lv_aload_n hx hb dL_law_452 rfl (lv_at hl 0 rfl) ?_
  refine lv_iload_n hx hb dL_law_453 rfl (lv_at hl 3 rfl) ?_
  refine lv_iconst (v := 1) hx hb dL_law_454 (by decide) ?_
  refine lv_iadd hx hb dL_law_455 ?_
  refine va_sld hx hb hX hbl hbA hst.2.2.2 hi1 dL_law_456 ?_
  refine lv_aload_n hx hb dL_law_457 rfl (lv_at hl 0 rfl) ?_
  refine lv_iload_n hx hb dL_law_458 rfl (lv_at hl 3 rfl) ?_
  refine lv_iconst (v := 2) hx hb dL_law_459 (by decide) ?_
  refine lv_iadd hx hb dL_law_460 ?_
  refine va_sld hx hb hX hbl hbA hst.2.2.2 hi2 dL_law_461 ?_
  refine lv_aload_n hx hb dL_law_462 rfl (lv_at hl 0 rfl) ?_
  refine lv_iload_n hx hb dL_law_463 rfl (lv_at hl 3 rfl) ?_
  refine lv_iconst (v := 3) hx hb dL_law_464 (by decide) ?_
  refine lv_iadd hx hb dL_law_465 ?_
  refine va_sld hx hb hX hbl hbA hst.2.2.2 hi3 dL_law_466 ?_
  refine w_c2 (w1 := wM cI cZ g) (w2 := wB cI cZ a) (As := [.int (xs (Int32.toNatClampNeg (x3 + 1))), .int (xs (Int32.toNatClampNeg (x3 + 2))), .int (xs (Int32.toNatClampNeg (x3 + 3)))]) (rest := [.int r]) C (wM_ad cI cZ g) (mX9_season l D cI cZ g (xs (Int32.toNatClampNeg (x3 + 1))) (xs (Int32.toNatClampNeg (x3 + 2))) (xs (Int32.toNatClampNeg (x3 + 3))) MM r MM1 hM) calX9_season cavX9_season (mU3 182 rfl rfl) hst.2.1 hst.1 hst.2.2.1.symm hst.2.2.2 hl.1 0 9 rfl rfl rfl rfl (Nat.le_of_ble_eq_true rfl) ⟨Nat.le_of_ble_eq_true rfl, Nat.le_of_ble_eq_true rfl⟩ ⟨Nat.le_refl _, Nat.le_refl _⟩ dL_law_467 (fun H locs g1 g2 g3 g4 => ?_)
  have hst : TwS D cI cZ a g s H locs MB1 MM1 := ⟨g2, g1, g3.symm, g4⟩
  refine lv_icmp_eq (tgt := 660) hx hb dL_law_470 (by decide) (fun _ => ?_) (fun h => absurd rfl h)
  exact hn MB1 MM1 H locs ls hR hst hl
set_option maxHeartbeats 4000000 in
set_option maxRecDepth 100000 in
theorem law_11 {p : Program} {l : Launch} {e : Env} {s : State} {m : MethodId} {below : List Frame} {meth : Method} {c : Code} {D : va_G} {cI cZ : ClassId} {a g : Nat → Nat} {b L : Nat} {xs : Nat → Int32} (C : Cx p s m #[Value.ref b] meth c cL_law 4 RL ret D cI cZ (AL s)) (hX : va_X b L xs s s.heap) (hbl : b < s.heap.size) {Rel : Mem → Mem → Prop} (hop : Op1 Rel fX8_creeps fX9_creeps) {x3 : Int32} (hi1 : vp_in (x3 + 1) L) (hi2 : vp_in (x3 + 2) L) (hi3 : vp_in (x3 + 3) L) (hi4 : vp_in (x3 + 4) L) (hi5 : vp_in (x3 + 5) L) (MB MM : Mem) (hR : Rel MB MM) (H : Heap) (locs : List Loc) (ls : Array Slot) (hst : TwS D cI cZ a g s H locs MB MM) (hl : lv_has ls 4 [(0, .ref b), (1, .ref (a 0)), (2, .ref (g 0)), (3, .int x3)]) (hn : ∀ (MB MM : Mem) (H : Heap) (locs : List Loc) (ls : Array Slot), Rel MB MM → TwS D cI cZ a g s H locs MB MM → lv_has ls 4 [(0, .ref b), (1, .ref (a 0)), (2, .ref (g 0)), (3, .int x3)] → WLw p l e s m b below meth c H locs (F0 m 660 ls [])) : WLw p l e s m b below meth c H locs (F0 m 475 ls []) := by
  obtain ⟨hx, hb, hml, hown, hU, hr, hlk, hK, hA⟩ := id C
  have hbA : ¬ AL s b := Nat.not_le.mpr hbl
  refine lv_aload_n hx hb dL_law_475 rfl (lv_at hl 1 rfl) ?_
  refine lv_aload_n hx hb dL_law_476 rfl (lv_at hl 0 rfl) ?_
  refine lv_iload_n hx hb dL_law_477 rfl (lv_at hl 3 rfl) ?_
  refine lv_iconst (v := 1) hx hb dL_law_478 (by decide) ?_
  refine lv_iadd hx hb dL_law_479 ?_
  refine va_sld hx hb hX hbl hbA hst.2.2.2 hi1 dL_law_480 ?_
  obtain ⟨r, MB1, MM1, hB, hM, hR⟩ := hop MB MM hR (xs (Int32.toNatClampNeg (x3 + 1)))
  refine w_c2 (w1 := wB cI cZ a) (w2 := wM cI cZ g) (As := [.int (xs (Int32.toNatClampNeg (x3 + 1)))]) (rest := []) C (wB_ad cI cZ a) (mX8_creeps l D cI cZ a (xs (Int32.toNatClampNeg (x3 + 1))) MB r MB1 hB) calX8_creeps cavX8_creeps (mU2 156 rfl rfl) hst.1 hst.2.1 hst.2.2.1 hst.2.2.2 hl.1 0 8 rfl rfl rfl rfl (Nat.le_of_ble_eq_true rfl) ⟨Nat.le_of_ble_eq_true rfl, Nat.le_of_ble_eq_true rfl⟩ ⟨Nat.le_refl _, Nat.le_refl _⟩ dL_law_481 (fun H locs g1 g2 g3 g4 => ?_)
  have hst : TwS D cI cZ a g s H locs MB1 MM := ⟨g1, g2, g3, g4⟩
  refine lv_aload_n hx hb dL_law_484 rfl (lv_at hl 2 rfl) ?_
  refine lv_aload_n hx hb dL_law_485 rfl (lv_at hl 0 rfl) ?_
  refine lv_iload_n hx hb dL_law_486 rfl (lv_at hl 3 rfl) ?_
  refine lv_iconst (v := 1) hx hb dL_law_487 (by decide) ?_
  refine lv_iadd hx hb dL_law_488 ?_
  refine va_sld hx hb hX hbl hbA hst.2.2.2 hi1 dL_law_489 ?_
  refine w_c2 (w1 := wM cI cZ g) (w2 := wB cI cZ a) (As := [.int (xs (Int32.toNatClampNeg (x3 + 1)))]) (rest := [.int r]) C (wM_ad cI cZ g) (mX9_creeps l D cI cZ g (xs (Int32.toNatClampNeg (x3 + 1))) MM r MM1 hM) calX9_creeps cavX9_creeps (mU3 198 rfl rfl) hst.2.1 hst.1 hst.2.2.1.symm hst.2.2.2 hl.1 0 9 rfl rfl rfl rfl (Nat.le_of_ble_eq_true rfl) ⟨Nat.le_of_ble_eq_true rfl, Nat.le_of_ble_eq_true rfl⟩ ⟨Nat.le_refl _, Nat.le_refl _⟩ dL_law_490 (fun H locs g1 g2 g3 g4 => ?_)
  have hst : TwS D cI cZ a g s H locs MB1 MM1 := ⟨g2, g1, g3.symm, g4⟩
  refine lv_icmp_eq (tgt := 660) hx hb dL_law_493 (by decide) (fun _ => ?_) (fun h => absurd rfl h)
  exact hn MB1 MM1 H locs ls hR hst hl
set_option maxHeartbeats 4000000 in
set_option maxRecDepth 100000 in
theorem law_12 {p : Program} {l : Launch} {e : Env} {s : State} {m : MethodId} {below : List Frame} {meth : Method} {c : Code} {D : va_G} {cI cZ : ClassId} {a g : Nat → Nat} {b L : Nat} {xs : Nat → Int32} (C : Cx p s m #[Value.ref b] meth c cL_law 4 RL ret D cI cZ (AL s)) (hX : va_X b L xs s s.heap) (hbl : b < s.heap.size) {Rel : Mem → Mem → Prop} (hop : Op2 Rel fX8_cry fX9_cry) {x3 : Int32} (hi1 : vp_in (x3 + 1) L) (hi2 : vp_in (x3 + 2) L) (hi3 : vp_in (x3 + 3) L) (hi4 : vp_in (x3 + 4) L) (hi5 : vp_in (x3 + 5) L) (MB MM : Mem) (hR : Rel MB MM) (H : Heap) (locs : List Loc) (ls : Array Slot) (hst : TwS D cI cZ a g s H locs MB MM) (hl : lv_has ls 4 [(0, .ref b), (1, .ref (a 0)), (2, .ref (g 0)), (3, .int x3)]) (hn : ∀ (MB MM : Mem) (H : Heap) (locs : List Loc) (ls : Array Slot), Rel MB MM → TwS D cI cZ a g s H locs MB MM → lv_has ls 4 [(0, .ref b), (1, .ref (a 0)), (2, .ref (g 0)), (3, .int x3)] → WLw p l e s m b below meth c H locs (F0 m 660 ls [])) : WLw p l e s m b below meth c H locs (F0 m 498 ls []) := by
  obtain ⟨hx, hb, hml, hown, hU, hr, hlk, hK, hA⟩ := id C
  have hbA : ¬ AL s b := Nat.not_le.mpr hbl
  refine lv_aload_n hx hb dL_law_498 rfl (lv_at hl 1 rfl) ?_
  refine lv_aload_n hx hb dL_law_499 rfl (lv_at hl 0 rfl) ?_
  refine lv_iload_n hx hb dL_law_500 rfl (lv_at hl 3 rfl) ?_
  refine lv_iconst (v := 1) hx hb dL_law_501 (by decide) ?_
  refine lv_iadd hx hb dL_law_502 ?_
  refine va_sld hx hb hX hbl hbA hst.2.2.2 hi1 dL_law_503 ?_
  refine lv_aload_n hx hb dL_law_504 rfl (lv_at hl 0 rfl) ?_
  refine lv_iload_n hx hb dL_law_505 rfl (lv_at hl 3 rfl) ?_
  refine lv_iconst (v := 2) hx hb dL_law_506 (by decide) ?_
  refine lv_iadd hx hb dL_law_507 ?_
  refine va_sld hx hb hX hbl hbA hst.2.2.2 hi2 dL_law_508 ?_
  obtain ⟨r, MB1, MM1, hB, hM, hR⟩ := hop MB MM hR (xs (Int32.toNatClampNeg (x3 + 1))) (xs (Int32.toNatClampNeg (x3 + 2)))
  refine w_c2 (w1 := wB cI cZ a) (w2 := wM cI cZ g) (As := [.int (xs (Int32.toNatClampNeg (x3 + 1))), .int (xs (Int32.toNatClampNeg (x3 + 2)))]) (rest := []) C (wB_ad cI cZ a) (mX8_cry l D cI cZ a (xs (Int32.toNatClampNeg (x3 + 1))) (xs (Int32.toNatClampNeg (x3 + 2))) MB r MB1 hB) calX8_cry cavX8_cry (mU2 176 rfl rfl) hst.1 hst.2.1 hst.2.2.1 hst.2.2.2 hl.1 0 8 rfl rfl rfl rfl (Nat.le_of_ble_eq_true rfl) ⟨Nat.le_of_ble_eq_true rfl, Nat.le_of_ble_eq_true rfl⟩ ⟨Nat.le_refl _, Nat.le_refl _⟩ dL_law_509 (fun H locs g1 g2 g3 g4 => ?_)
  have hst : TwS D cI cZ a g s H locs MB1 MM := ⟨g1, g2, g3, g4⟩
  refine lv_aload_n hx hb dL_law_512 rfl (lv_at hl 2 rfl) ?_
  refine lv_aload_n hx hb dL_law_513 rfl (lv_at hl 0 rfl) ?_
  refine lv_iload_n hx hb dL_law_514 rfl (lv_at hl 3 rfl) ?_
  refine lv_iconst (v := 1) hx hb dL_law_515 (by decide) ?_
  refine lv_iadd hx hb dL_law_516 ?_
  refine va_sld hx hb hX hbl hbA hst.2.2.2 hi1 dL_law_517 ?_
  refine lv_aload_n hx hb dL_law_518 rfl (lv_at hl 0 rfl) ?_
  refine lv_iload_n hx hb dL_law_519 rfl (lv_at hl 3 rfl) ?_
  refine lv_iconst (v := 2) hx hb dL_law_520 (by decide) ?_
  refine lv_iadd hx hb dL_law_521 ?_
  refine va_sld hx hb hX hbl hbA hst.2.2.2 hi2 dL_law_522 ?_
  refine w_c2 (w1 := wM cI cZ g) (w2 := wB cI cZ a) (As := [.int (xs (Int32.toNatClampNeg (x3 + 1))), .int (xs (Int32.toNatClampNeg (x3 + 2)))]) (rest := [.int r]) C (wM_ad cI cZ g) (mX9_cry l D cI cZ g (xs (Int32.toNatClampNeg (x3 + 1))) (xs (Int32.toNatClampNeg (x3 + 2))) MM r MM1 hM) calX9_cry cavX9_cry (mU3 232 rfl rfl) hst.2.1 hst.1 hst.2.2.1.symm hst.2.2.2 hl.1 0 9 rfl rfl rfl rfl (Nat.le_of_ble_eq_true rfl) ⟨Nat.le_of_ble_eq_true rfl, Nat.le_of_ble_eq_true rfl⟩ ⟨Nat.le_refl _, Nat.le_refl _⟩ dL_law_523 (fun H locs g1 g2 g3 g4 => ?_)
  have hst : TwS D cI cZ a g s H locs MB1 MM1 := ⟨g2, g1, g3.symm, g4⟩
  refine lv_icmp_eq (tgt := 660) hx hb dL_law_526 (by decide) (fun _ => ?_) (fun h => absurd rfl h)
  exact hn MB1 MM1 H locs ls hR hst hl
set_option maxHeartbeats 4000000 in
set_option maxRecDepth 100000 in
theorem law_13 {p : Program} {l : Launch} {e : Env} {s : State} {m : MethodId} {below : List Frame} {meth : Method} {c : Code} {D : va_G} {cI cZ : ClassId} {a g : Nat → Nat} {b L : Nat} {xs : Nat → Int32} (C : Cx p s m #[Value.ref b] meth c cL_law 4 RL ret D cI cZ (AL s)) (hX : va_X b L xs s s.heap) (hbl : b < s.heap.size) {Rel : Mem → Mem → Prop} (hop : Op3 Rel fX8_laid fX9_laid) {x3 : Int32} (hi1 : vp_in (x3 + 1) L) (hi2 : vp_in (x3 + 2) L) (hi3 : vp_in (x3 + 3) L) (hi4 : vp_in (x3 + 4) L) (hi5 : vp_in (x3 + 5) L) (MB MM : Mem) (hR : Rel MB MM) (H : Heap) (locs : List Loc) (ls : Array Slot) (hst : TwS D cI cZ a g s H locs MB MM) (hl : lv_has ls 4 [(0, .ref b), (1, .ref (a 0)), (2, .ref (g 0)), (3, .int x3)]) (hn : ∀ (MB MM : Mem) (H : Heap) (locs : List Loc) (ls : Array Slot), Rel MB MM → TwS D cI cZ a g s H locs MB MM → lv_has ls 4 [(0, .ref b), (1, .ref (a 0)), (2, .ref (g 0)), (3, .int x3)] → WLw p l e s m b below meth c H locs (F0 m 660 ls [])) : WLw p l e s m b below meth c H locs (F0 m 531 ls []) := by
  obtain ⟨hx, hb, hml, hown, hU, hr, hlk, hK, hA⟩ := id C
  have hbA : ¬ AL s b := Nat.not_le.mpr hbl
  refine lv_aload_n hx hb dL_law_531 rfl (lv_at hl 1 rfl) ?_
  refine lv_aload_n hx hb dL_law_532 rfl (lv_at hl 0 rfl) ?_
  refine lv_iload_n hx hb dL_law_533 rfl (lv_at hl 3 rfl) ?_
  refine lv_iconst (v := 1) hx hb dL_law_534 (by decide) ?_
  refine lv_iadd hx hb dL_law_535 ?_
  refine va_sld hx hb hX hbl hbA hst.2.2.2 hi1 dL_law_536 ?_
  refine lv_aload_n hx hb dL_law_537 rfl (lv_at hl 0 rfl) ?_
  refine lv_iload_n hx hb dL_law_538 rfl (lv_at hl 3 rfl) ?_
  refine lv_iconst (v := 2) hx hb dL_law_539 (by decide) ?_
  refine lv_iadd hx hb dL_law_540 ?_
  refine va_sld hx hb hX hbl hbA hst.2.2.2 hi2 dL_law_541 ?_
  refine lv_aload_n hx hb dL_law_542 rfl (lv_at hl 0 rfl) ?_
  refine lv_iload_n hx hb dL_law_543 rfl (lv_at hl 3 rfl) ?_
  refine lv_iconst (v := 3) hx hb dL_law_544 (by decide) ?_
  refine lv_iadd hx hb dL_law_545 ?_
  refine va_sld hx hb hX hbl hbA hst.2.2.2 hi3 dL_law_546 ?_
  obtain ⟨r, MB1, MM1, hB, hM, hR⟩ := hop MB MM hR (xs (Int32.toNatClampNeg (x3 + 1))) (xs (Int32.toNatClampNeg (x3 + 2))) (xs (Int32.toNatClampNeg (x3 + 3)))
  refine w_c2 (w1 := wB cI cZ a) (w2 := wM cI cZ g) (As := [.int (xs (Int32.toNatClampNeg (x3 + 1))), .int (xs (Int32.toNatClampNeg (x3 + 2))), .int (xs (Int32.toNatClampNeg (x3 + 3)))]) (rest := []) C (wB_ad cI cZ a) (mX8_laid l D cI cZ a (xs (Int32.toNatClampNeg (x3 + 1))) (xs (Int32.toNatClampNeg (x3 + 2))) (xs (Int32.toNatClampNeg (x3 + 3))) MB r MB1 hB) calX8_laid cavX8_laid (mU2 204 rfl rfl) hst.1 hst.2.1 hst.2.2.1 hst.2.2.2 hl.1 0 8 rfl rfl rfl rfl (Nat.le_of_ble_eq_true rfl) ⟨Nat.le_of_ble_eq_true rfl, Nat.le_of_ble_eq_true rfl⟩ ⟨Nat.le_refl _, Nat.le_refl _⟩ dL_law_547 (fun H locs g1 g2 g3 g4 => ?_)
  have hst : TwS D cI cZ a g s H locs MB1 MM := ⟨g1, g2, g3, g4⟩
  refine lv_aload_n hx hb dL_law_550 rfl (lv_at hl 2 rfl) ?_
  refine lv_aload_n hx hb dL_law_551 rfl (lv_at hl 0 rfl) ?_
  refine lv_iload_n hx hb dL_law_552 rfl (lv_at hl 3 rfl) ?_
  refine lv_iconst (v := 1) hx hb dL_law_553 (by decide) ?_
  refine lv_iadd hx hb dL_law_554 ?_
  refine va_sld hx hb hX hbl hbA hst.2.2.2 hi1 dL_law_555 ?_
  refine lv_aload_n hx hb dL_law_556 rfl (lv_at hl 0 rfl) ?_
  refine lv_iload_n hx hb dL_law_557 rfl (lv_at hl 3 rfl) ?_
  refine lv_iconst (v := 2) hx hb dL_law_558 (by decide) ?_
  refine lv_iadd hx hb dL_law_559 ?_
  refine va_sld hx hb hX hbl hbA hst.2.2.2 hi2 dL_law_560 ?_
  refine lv_aload_n hx hb dL_law_561 rfl (lv_at hl 0 rfl) ?_
  refine lv_iload_n hx hb dL_law_562 rfl (lv_at hl 3 rfl) ?_
  refine lv_iconst (v := 3) hx hb dL_law_563 (by decide) ?_
  refine lv_iadd hx hb dL_law_564 ?_
  refine va_sld hx hb hX hbl hbA hst.2.2.2 hi3 dL_law_565 ?_
  refine w_c2 (w1 := wM cI cZ g) (w2 := wB cI cZ a) (As := [.int (xs (Int32.toNatClampNeg (x3 + 1))), .int (xs (Int32.toNatClampNeg (x3 + 2))), .int (xs (Int32.toNatClampNeg (x3 + 3)))]) (rest := [.int r]) C (wM_ad cI cZ g) (mX9_laid l D cI cZ g (xs (Int32.toNatClampNeg (x3 + 1))) (xs (Int32.toNatClampNeg (x3 + 2))) (xs (Int32.toNatClampNeg (x3 + 3))) MM r MM1 hM) calX9_laid cavX9_laid (mU3 236 rfl rfl) hst.2.1 hst.1 hst.2.2.1.symm hst.2.2.2 hl.1 0 9 rfl rfl rfl rfl (Nat.le_of_ble_eq_true rfl) ⟨Nat.le_of_ble_eq_true rfl, Nat.le_of_ble_eq_true rfl⟩ ⟨Nat.le_refl _, Nat.le_refl _⟩ dL_law_566 (fun H locs g1 g2 g3 g4 => ?_)
  have hst : TwS D cI cZ a g s H locs MB1 MM1 := ⟨g2, g1, g3.symm, g4⟩
  refine lv_icmp_eq (tgt := 660) hx hb dL_law_569 (by decide) (fun _ => ?_) (fun h => absurd rfl h)
  exact hn MB1 MM1 H locs ls hR hst hl
set_option maxHeartbeats 4000000 in
set_option maxRecDepth 100000 in
theorem law_14 {p : Program} {l : Launch} {e : Env} {s : State} {m : MethodId} {below : List Frame} {meth : Method} {c : Code} {D : va_G} {cI cZ : ClassId} {a g : Nat → Nat} {b L : Nat} {xs : Nat → Int32} (C : Cx p s m #[Value.ref b] meth c cL_law 4 RL ret D cI cZ (AL s)) (hX : va_X b L xs s s.heap) (hbl : b < s.heap.size) {Rel : Mem → Mem → Prop} (hop : Op4 Rel fX8_budget fX9_budget) {x3 : Int32} (hi1 : vp_in (x3 + 1) L) (hi2 : vp_in (x3 + 2) L) (hi3 : vp_in (x3 + 3) L) (hi4 : vp_in (x3 + 4) L) (hi5 : vp_in (x3 + 5) L) (MB MM : Mem) (hR : Rel MB MM) (H : Heap) (locs : List Loc) (ls : Array Slot) (hst : TwS D cI cZ a g s H locs MB MM) (hl : lv_has ls 4 [(0, .ref b), (1, .ref (a 0)), (2, .ref (g 0)), (3, .int x3)]) (hn : ∀ (MB MM : Mem) (H : Heap) (locs : List Loc) (ls : Array Slot), Rel MB MM → TwS D cI cZ a g s H locs MB MM → lv_has ls 4 [(0, .ref b), (1, .ref (a 0)), (2, .ref (g 0)), (3, .int x3)] → WLw p l e s m b below meth c H locs (F0 m 660 ls [])) : WLw p l e s m b below meth c H locs (F0 m 574 ls []) := by
  obtain ⟨hx, hb, hml, hown, hU, hr, hlk, hK, hA⟩ := id C
  have hbA : ¬ AL s b := Nat.not_le.mpr hbl
  refine lv_aload_n hx hb dL_law_574 rfl (lv_at hl 1 rfl) ?_
  refine lv_aload_n hx hb dL_law_575 rfl (lv_at hl 0 rfl) ?_
  refine lv_iload_n hx hb dL_law_576 rfl (lv_at hl 3 rfl) ?_
  refine lv_iconst (v := 1) hx hb dL_law_577 (by decide) ?_
  refine lv_iadd hx hb dL_law_578 ?_
  refine va_sld hx hb hX hbl hbA hst.2.2.2 hi1 dL_law_579 ?_
  refine lv_aload_n hx hb dL_law_580 rfl (lv_at hl 0 rfl) ?_
  refine lv_iload_n hx hb dL_law_581 rfl (lv_at hl 3 rfl) ?_
  refine lv_iconst (v := 2) hx hb dL_law_582 (by decide) ?_
  refine lv_iadd hx hb dL_law_583 ?_
  refine va_sld hx hb hX hbl hbA hst.2.2.2 hi2 dL_law_584 ?_
  refine lv_aload_n hx hb dL_law_585 rfl (lv_at hl 0 rfl) ?_
  refine lv_iload_n hx hb dL_law_586 rfl (lv_at hl 3 rfl) ?_
  refine lv_iconst (v := 3) hx hb dL_law_587 (by decide) ?_
  refine lv_iadd hx hb dL_law_588 ?_
  refine va_sld hx hb hX hbl hbA hst.2.2.2 hi3 dL_law_589 ?_
  refine lv_aload_n hx hb dL_law_590 rfl (lv_at hl 0 rfl) ?_
  refine lv_iload_n hx hb dL_law_591 rfl (lv_at hl 3 rfl) ?_
  refine lv_iconst (v := 4) hx hb dL_law_592 (by decide) ?_
  refine lv_iadd hx hb dL_law_593 ?_
  refine va_sld hx hb hX hbl hbA hst.2.2.2 hi4 dL_law_594 ?_
  obtain ⟨r, MB1, MM1, hB, hM, hR⟩ := hop MB MM hR (xs (Int32.toNatClampNeg (x3 + 1))) (xs (Int32.toNatClampNeg (x3 + 2))) (xs (Int32.toNatClampNeg (x3 + 3))) (xs (Int32.toNatClampNeg (x3 + 4)))
  refine w_c2 (w1 := wB cI cZ a) (w2 := wM cI cZ g) (As := [.int (xs (Int32.toNatClampNeg (x3 + 1))), .int (xs (Int32.toNatClampNeg (x3 + 2))), .int (xs (Int32.toNatClampNeg (x3 + 3))), .int (xs (Int32.toNatClampNeg (x3 + 4)))]) (rest := []) C (wB_ad cI cZ a) (mX8_budget l D cI cZ a (xs (Int32.toNatClampNeg (x3 + 1))) (xs (Int32.toNatClampNeg (x3 + 2))) (xs (Int32.toNatClampNeg (x3 + 3))) (xs (Int32.toNatClampNeg (x3 + 4))) MB r MB1 hB) calX8_budget cavX8_budget (mU2 225 rfl rfl) hst.1 hst.2.1 hst.2.2.1 hst.2.2.2 hl.1 0 8 rfl rfl rfl rfl (Nat.le_of_ble_eq_true rfl) ⟨Nat.le_of_ble_eq_true rfl, Nat.le_of_ble_eq_true rfl⟩ ⟨Nat.le_refl _, Nat.le_refl _⟩ dL_law_595 (fun H locs g1 g2 g3 g4 => ?_)
  have hst : TwS D cI cZ a g s H locs MB1 MM := ⟨g1, g2, g3, g4⟩
  refine lv_aload_n hx hb dL_law_598 rfl (lv_at hl 2 rfl) ?_
  refine lv_aload_n hx hb dL_law_599 rfl (lv_at hl 0 rfl) ?_
  refine lv_iload_n hx hb dL_law_600 rfl (lv_at hl 3 rfl) ?_
  refine lv_iconst (v := 1) hx hb dL_law_601 (by decide) ?_
  refine lv_iadd hx hb dL_law_602 ?_
  refine va_sld hx hb hX hbl hbA hst.2.2.2 hi1 dL_law_603 ?_
  refine lv_aload_n hx hb dL_law_604 rfl (lv_at hl 0 rfl) ?_
  refine lv_iload_n hx hb dL_law_605 rfl (lv_at hl 3 rfl) ?_
  refine lv_iconst (v := 2) hx hb dL_law_606 (by decide) ?_
  refine lv_iadd hx hb dL_law_607 ?_
  refine va_sld hx hb hX hbl hbA hst.2.2.2 hi2 dL_law_608 ?_
  refine lv_aload_n hx hb dL_law_609 rfl (lv_at hl 0 rfl) ?_
  refine lv_iload_n hx hb dL_law_610 rfl (lv_at hl 3 rfl) ?_
  refine lv_iconst (v := 3) hx hb dL_law_611 (by decide) ?_
  refine lv_iadd hx hb dL_law_612 ?_
  refine va_sld hx hb hX hbl hbA hst.2.2.2 hi3 dL_law_613 ?_
  refine lv_aload_n hx hb dL_law_614 rfl (lv_at hl 0 rfl) ?_
  refine lv_iload_n hx hb dL_law_615 rfl (lv_at hl 3 rfl) ?_
  refine lv_iconst (v := 4) hx hb dL_law_616 (by decide) ?_
  refine lv_iadd hx hb dL_law_617 ?_
  refine va_sld hx hb hX hbl hbA hst.2.2.2 hi4 dL_law_618 ?_
  refine w_c2 (w1 := wM cI cZ g) (w2 := wB cI cZ a) (As := [.int (xs (Int32.toNatClampNeg (x3 + 1))), .int (xs (Int32.toNatClampNeg (x3 + 2))), .int (xs (Int32.toNatClampNeg (x3 + 3))), .int (xs (Int32.toNatClampNeg (x3 + 4)))]) (rest := [.int r]) C (wM_ad cI cZ g) (mX9_budget l D cI cZ g (xs (Int32.toNatClampNeg (x3 + 1))) (xs (Int32.toNatClampNeg (x3 + 2))) (xs (Int32.toNatClampNeg (x3 + 3))) (xs (Int32.toNatClampNeg (x3 + 4))) MM r MM1 hM) calX9_budget cavX9_budget (mU4 12 rfl rfl) hst.2.1 hst.1 hst.2.2.1.symm hst.2.2.2 hl.1 0 9 rfl rfl rfl rfl (Nat.le_of_ble_eq_true rfl) ⟨Nat.le_of_ble_eq_true rfl, Nat.le_of_ble_eq_true rfl⟩ ⟨Nat.le_refl _, Nat.le_refl _⟩ dL_law_619 (fun H locs g1 g2 g3 g4 => ?_)
  have hst : TwS D cI cZ a g s H locs MB1 MM1 := ⟨g2, g1, g3.symm, g4⟩
  refine lv_icmp_eq (tgt := 660) hx hb dL_law_622 (by decide) (fun _ => ?_) (fun h => absurd rfl h)
  exact hn MB1 MM1 H locs ls hR hst hl
set_option maxHeartbeats 4000000 in
set_option maxRecDepth 100000 in
theorem law_15 {p : Program} {l : Launch} {e : Env} {s : State} {m : MethodId} {below : List Frame} {meth : Method} {c : Code} {D : va_G} {cI cZ : ClassId} {a g : Nat → Nat} {b L : Nat} {xs : Nat → Int32} (C : Cx p s m #[Value.ref b] meth c cL_law 4 RL ret D cI cZ (AL s)) (hX : va_X b L xs s s.heap) (hbl : b < s.heap.size) {Rel : Mem → Mem → Prop} (hop : Op2 Rel fX8_budgeted fX9_budgeted) {x3 : Int32} (hi1 : vp_in (x3 + 1) L) (hi2 : vp_in (x3 + 2) L) (hi3 : vp_in (x3 + 3) L) (hi4 : vp_in (x3 + 4) L) (hi5 : vp_in (x3 + 5) L) (MB MM : Mem) (hR : Rel MB MM) (H : Heap) (locs : List Loc) (ls : Array Slot) (hst : TwS D cI cZ a g s H locs MB MM) (hl : lv_has ls 4 [(0, .ref b), (1, .ref (a 0)), (2, .ref (g 0)), (3, .int x3)]) (hn : ∀ (MB MM : Mem) (H : Heap) (locs : List Loc) (ls : Array Slot), Rel MB MM → TwS D cI cZ a g s H locs MB MM → lv_has ls 4 [(0, .ref b), (1, .ref (a 0)), (2, .ref (g 0)), (3, .int x3)] → WLw p l e s m b below meth c H locs (F0 m 660 ls [])) : WLw p l e s m b below meth c H locs (F0 m 627 ls []) := by
  obtain ⟨hx, hb, hml, hown, hU, hr, hlk, hK, hA⟩ := id C
  have hbA : ¬ AL s b := Nat.not_le.mpr hbl
  refine lv_aload_n hx hb dL_law_627 rfl (lv_at hl 1 rfl) ?_
  refine lv_aload_n hx hb dL_law_628 rfl (lv_at hl 0 rfl) ?_
  refine lv_iload_n hx hb dL_law_629 rfl (lv_at hl 3 rfl) ?_
  refine lv_iconst (v := 1) hx hb dL_law_630 (by decide) ?_
  refine lv_iadd hx hb dL_law_631 ?_
  refine va_sld hx hb hX hbl hbA hst.2.2.2 hi1 dL_law_632 ?_
  refine lv_aload_n hx hb dL_law_633 rfl (lv_at hl 0 rfl) ?_
  refine lv_iload_n hx hb dL_law_634 rfl (lv_at hl 3 rfl) ?_
  refine lv_iconst (v := 2) hx hb dL_law_635 (by decide) ?_
  refine lv_iadd hx hb dL_law_636 ?_
  refine va_sld hx hb hX hbl hbA hst.2.2.2 hi2 dL_law_637 ?_
  obtain ⟨r, MB1, MM1, hB, hM, hR⟩ := hop MB MM hR (xs (Int32.toNatClampNeg (x3 + 1))) (xs (Int32.toNatClampNeg (x3 + 2)))
  refine w_c2 (w1 := wB cI cZ a) (w2 := wM cI cZ g) (As := [.int (xs (Int32.toNatClampNeg (x3 + 1))), .int (xs (Int32.toNatClampNeg (x3 + 2)))]) (rest := []) C (wB_ad cI cZ a) (mX8_budgeted l D cI cZ a (xs (Int32.toNatClampNeg (x3 + 1))) (xs (Int32.toNatClampNeg (x3 + 2))) MB r MB1 hB) calX8_budgeted cavX8_budgeted (mU2 234 rfl rfl) hst.1 hst.2.1 hst.2.2.1 hst.2.2.2 hl.1 0 8 rfl rfl rfl rfl (Nat.le_of_ble_eq_true rfl) ⟨Nat.le_of_ble_eq_true rfl, Nat.le_of_ble_eq_true rfl⟩ ⟨Nat.le_refl _, Nat.le_refl _⟩ dL_law_638 (fun H locs g1 g2 g3 g4 => ?_)
  have hst : TwS D cI cZ a g s H locs MB1 MM := ⟨g1, g2, g3, g4⟩
  refine lv_aload_n hx hb dL_law_641 rfl (lv_at hl 2 rfl) ?_
  refine lv_aload_n hx hb dL_law_642 rfl (lv_at hl 0 rfl) ?_
  refine lv_iload_n hx hb dL_law_643 rfl (lv_at hl 3 rfl) ?_
  refine lv_iconst (v := 1) hx hb dL_law_644 (by decide) ?_
  refine lv_iadd hx hb dL_law_645 ?_
  refine va_sld hx hb hX hbl hbA hst.2.2.2 hi1 dL_law_646 ?_
  refine lv_aload_n hx hb dL_law_647 rfl (lv_at hl 0 rfl) ?_
  refine lv_iload_n hx hb dL_law_648 rfl (lv_at hl 3 rfl) ?_
  refine lv_iconst (v := 2) hx hb dL_law_649 (by decide) ?_
  refine lv_iadd hx hb dL_law_650 ?_
  refine va_sld hx hb hX hbl hbA hst.2.2.2 hi2 dL_law_651 ?_
  refine w_c2 (w1 := wM cI cZ g) (w2 := wB cI cZ a) (As := [.int (xs (Int32.toNatClampNeg (x3 + 1))), .int (xs (Int32.toNatClampNeg (x3 + 2)))]) (rest := [.int r]) C (wM_ad cI cZ g) (mX9_budgeted l D cI cZ g (xs (Int32.toNatClampNeg (x3 + 1))) (xs (Int32.toNatClampNeg (x3 + 2))) MM r MM1 hM) calX9_budgeted cavX9_budgeted (mU4 17 rfl rfl) hst.2.1 hst.1 hst.2.2.1.symm hst.2.2.2 hl.1 0 9 rfl rfl rfl rfl (Nat.le_of_ble_eq_true rfl) ⟨Nat.le_of_ble_eq_true rfl, Nat.le_of_ble_eq_true rfl⟩ ⟨Nat.le_refl _, Nat.le_refl _⟩ dL_law_652 (fun H locs g1 g2 g3 g4 => ?_)
  have hst : TwS D cI cZ a g s H locs MB1 MM1 := ⟨g2, g1, g3.symm, g4⟩
  refine lv_icmp_eq (tgt := 660) hx hb dL_law_655 (by decide) (fun _ => ?_) (fun h => absurd rfl h)
  exact hn MB1 MM1 H locs ls hR hst hl
def Ops (Rel : Mem → Mem → Prop) : Prop := Op2 Rel fX8_owner fX9_owner ∧ Op5 Rel fX8_share fX9_share ∧ Op2 Rel fX8_begin fX9_begin ∧ Op1 Rel fX8_stop fX9_stop ∧ Op2 Rel fX8_use fX9_use ∧ Op1 Rel fX8_floor fX9_floor ∧ Op1 Rel fX8_hours fX9_hours ∧ Op1 Rel fX8_look fX9_look ∧ Op2 Rel fX8_machine fX9_machine ∧ Op2 Rel fX8_cost fX9_cost ∧ Op3 Rel fX8_season fX9_season ∧ Op1 Rel fX8_creeps fX9_creeps ∧ Op2 Rel fX8_cry fX9_cry ∧ Op3 Rel fX8_laid fX9_laid ∧ Op4 Rel fX8_budget fX9_budget ∧ Op2 Rel fX8_budgeted fX9_budgeted

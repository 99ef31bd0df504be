theorem sub6 {L i : Nat} (hL : L ≤ 3072) (hi : i ≤ L) (h : L < i + 6) : Int32.ofNat L - 6 < nI i := by
  show nI L - nI 6 < nI i
  rw [Int32.lt_iff_toInt_lt, pk_sub_toInt (by omega) (by decide), nI_toInt (by omega)]
  omega
set_option maxHeartbeats 4000000 in
set_option maxRecDepth 100000 in
theorem law_loop {p : Program} {l : Launch} {e : Env} {s : State} {m : MethodId} {below : List Frame} {meth : Method} {c : Code} {D : va_G} {cI cZ : ClassId} {a g : Nat → Nat} {b L : Nat} {xs : Nat → Int32} (C : Cx p s m #[Value.ref b] meth c cL_law 4 RL ret D cI cZ (AL s)) (hX : va_X b L xs s s.heap) (hbl : b < s.heap.size) {Rel : Mem → Mem → Prop} (hL : L ≤ 3072) (hops : Ops Rel) : ∀ (n i : Nat) (x3 : Int32), i ≤ L → L + 1 ≤ i + n → x3 = nI i → ∀ (MB MM : Mem) (H : Heap) (locs : List Loc) (ls : Array Slot), Rel MB MM → TwS D cI cZ a g s H locs MB MM → lv_has ls 4 [(0, .ref b), (1, .ref (a 0)), (2, .ref (g 0)), (3, .int x3)] → WLw p l e s m b below meth c H locs (F0 m 18 ls []) := by
  obtain ⟨hx, hb, hml, hown, hU, hr, hlk, hK, hA⟩ := id C
  have hbA : ¬ AL s b := Nat.not_le.mpr hbl
  obtain ⟨o0, o1, o2, o3, o4, o5, o6, o7, o8, o9, o10, o11, o12, o13, o14, o15⟩ := hops
  intro n
  induction n with
  | zero =>
    intro i x3 h1 h2
    exact absurd h2 (by omega)
  | succ n ih =>
    intro i x3 hi hin ex MB MM H locs ls hR hst hl
    refine lv_iload_n hx hb dL_law_18 rfl (lv_at hl 3 rfl) ?_
    refine lv_aload_n hx hb dL_law_19 rfl (lv_at hl 0 rfl) ?_
    refine va_slen hx hb hX hbl hbA hst.2.2.2 dL_law_20 ?_
    refine lv_bipush (v := 6) hx hb dL_law_21 (by decide) ?_
    refine lv_isub hx hb dL_law_23 ?_
    refine lv_icmp_gt (tgt := 666) hx hb dL_law_24 (by decide) (fun c_24 => ?_) (fun c_24 => ?_)
    · refine lv_iconst (v := 1) hx hb dL_law_666 (by decide) ?_
      refine va_forget (fun q hq => hst.2.2.2.2.2 q hq) ?_
      exact lw_ret hx hb hr hlk dL_law_667
    · have hlt : i + 6 ≤ L := by
        rcases Nat.lt_or_ge L (i + 6) with q | q
        · exfalso
          refine c_24 ?_
          rw [ex]
          exact sub6 hL hi q
        · exact q
      have hi0 : vp_in x3 L := by rw [ex]; exact vp_in_nI (by omega) (by omega)
      have hi1 : vp_in (x3 + 1) L := by rw [ex, show nI i + 1 = nI (i + 1) from nI_add i 1]; exact vp_in_nI (by omega) (by omega)
      have hi2 : vp_in (x3 + 2) L := by rw [ex, show nI i + 2 = nI (i + 2) from nI_add i 2]; exact vp_in_nI (by omega) (by omega)
      have hi3 : vp_in (x3 + 3) L := by rw [ex, show nI i + 3 = nI (i + 3) from nI_add i 3]; exact vp_in_nI (by omega) (by omega)
      have hi4 : vp_in (x3 + 4) L := by rw [ex, show nI i + 4 = nI (i + 4) from nI_add i 4]; exact vp_in_nI (by omega) (by omega)
      have hi5 : vp_in (x3 + 5) L := by rw [ex, show nI i + 5 = nI (i + 5) from nI_add i 5]; exact vp_in_nI (by omega) (by omega)
      have hn : ∀ (MB MM : Mem) (H : Heap) (locs : List Loc) (ls : Array Slot), Rel MB MM → TwS D cI cZ a g s H locs MB MM → lv_has ls 4 [(0, .ref b), (1, .ref (a 0)), (2, .ref (g 0)), (3, .int x3)] → WLw p l e s m b below meth c H locs (F0 m 660 ls []) := by
        intro MB MM H locs ls hR hst hl
        refine lv_iinc (v := x3 + 6) (lv' := [(3, .int (x3 + 6)), (0, .ref b), (1, .ref (a 0)), (2, .ref (g 0))]) hx hb dL_law_660 hl (k := 3) rfl rfl (by decide) rfl (fun ls hl => ?_)
        refine lv_goto (tgt := 18) hx hb dL_law_663 (by decide) ?_
        exact ih (i + 6) (x3 + 6) hlt (by omega) (by rw [ex]; exact nI_add i 6) MB MM H locs ls hR hst (lv_sub hl [1, 2, 3, 0] rfl)
      refine lv_aload_n hx hb dL_law_27 rfl (lv_at hl 0 rfl) ?_
      refine lv_iload_n hx hb dL_law_28 rfl (lv_at hl 3 rfl) ?_
      refine va_sld hx hb hX hbl hbA hst.2.2.2 hi0 dL_law_29 ?_
      refine lv_bipush (v := 15) hx hb dL_law_30 (by decide) ?_
      refine lv_iand hx hb dL_law_32 ?_
      refine lv_topi (fun z ez => ?_)
      by_cases c0 : z = (0 : Int32)
      · refine lv_tableIn (tgt := 112) hx hb dL_law_33 (by rw [c0]; decide) (by rw [c0]; decide) (by rw [c0]; rfl) (by decide) ?_
        exact law_0 C hX hbl o0 hi1 hi2 hi3 hi4 hi5 MB MM hR H locs ls hst hl hn
      by_cases c1 : z = (1 : Int32)
      · refine lv_tableIn (tgt := 145) hx hb dL_law_33 (by rw [c1]; decide) (by rw [c1]; decide) (by rw [c1]; rfl) (by decide) ?_
        exact law_1 C hX hbl o1 hi1 hi2 hi3 hi4 hi5 MB MM hR H locs ls hst hl hn
      by_cases c2 : z = (2 : Int32)
      · refine lv_tableIn (tgt := 208) hx hb dL_law_33 (by rw [c2]; decide) (by rw [c2]; decide) (by rw [c2]; rfl) (by decide) ?_
        exact law_2 C hX hbl o2 hi1 hi2 hi3 hi4 hi5 MB MM hR H locs ls hst hl hn
      by_cases c3 : z = (3 : Int32)
      · refine lv_tableIn (tgt := 241) hx hb dL_law_33 (by rw [c3]; decide) (by rw [c3]; decide) (by rw [c3]; rfl) (by decide) ?_
        exact law_3 C hX hbl o3 hi1 hi2 hi3 hi4 hi5 MB MM hR H locs ls hst hl hn
      by_cases c4 : z = (4 : Int32)
      · refine lv_tableIn (tgt := 264) hx hb dL_law_33 (by rw [c4]; decide) (by rw [c4]; decide) (by rw [c4]; rfl) (by decide) ?_
        exact law_4 C hX hbl o4 hi1 hi2 hi3 hi4 hi5 MB MM hR H locs ls hst hl hn
      by_cases c5 : z = (5 : Int32)
      · refine lv_tableIn (tgt := 297) hx hb dL_law_33 (by rw [c5]; decide) (by rw [c5]; decide) (by rw [c5]; rfl) (by decide) ?_
        exact law_5 C hX hbl o5 hi1 hi2 hi3 hi4 hi5 MB MM hR H locs ls hst hl hn
      by_cases c6 : z = (6 : Int32)
      · refine lv_tableIn (tgt := 320) hx hb dL_law_33 (by rw [c6]; decide) (by rw [c6]; decide) (by rw [c6]; rfl) (by decide) ?_
        exact law_6 C hX hbl o6 hi1 hi2 hi3 hi4 hi5 MB MM hR H locs ls hst hl hn
      by_cases c7 : z = (7 : Int32)
      · refine lv_tableIn (tgt := 343) hx hb dL_law_33 (by rw [c7]; decide) (by rw [c7]; decide) (by rw [c7]; rfl) (by decide) ?_
        exact law_7 C hX hbl o7 hi1 hi2 hi3 hi4 hi5 MB MM hR H locs ls hst hl hn
      by_cases c8 : z = (8 : Int32)
      · refine lv_tableIn (tgt := 366) hx hb dL_law_33 (by rw [c8]; decide) (by rw [c8]; decide) (by rw [c8]; rfl) (by decide) ?_
        exact law_8 C hX hbl o8 hi1 hi2 hi3 hi4 hi5 MB MM hR H locs ls hst hl hn
      by_cases c9 : z = (9 : Int32)
      · refine lv_tableIn (tgt := 399) hx hb dL_law_33 (by rw [c9]; decide) (by rw [c9]; decide) (by rw [c9]; rfl) (by decide) ?_
        exact law_9 C hX hbl o9 hi1 hi2 hi3 hi4 hi5 MB MM hR H locs ls hst hl hn
      by_cases c10 : z = (10 : Int32)
      · refine lv_tableIn (tgt := 432) hx hb dL_law_33 (by rw [c10]; decide) (by rw [c10]; decide) (by rw [c10]; rfl) (by decide) ?_
        exact law_10 C hX hbl o10 hi1 hi2 hi3 hi4 hi5 MB MM hR H locs ls hst hl hn
      by_cases c11 : z = (11 : Int32)
      · refine lv_tableIn (tgt := 475) hx hb dL_law_33 (by rw [c11]; decide) (by rw [c11]; decide) (by rw [c11]; rfl) (by decide) ?_
        exact law_11 C hX hbl o11 hi1 hi2 hi3 hi4 hi5 MB MM hR H locs ls hst hl hn
      by_cases c12 : z = (12 : Int32)
      · refine lv_tableIn (tgt := 498) hx hb dL_law_33 (by rw [c12]; decide) (by rw [c12]; decide) (by rw [c12]; rfl) (by decide) ?_
        exact law_12 C hX hbl o12 hi1 hi2 hi3 hi4 hi5 MB MM hR H locs ls hst hl hn
      by_cases c13 : z = (13 : Int32)
      · refine lv_tableIn (tgt := 531) hx hb dL_law_33 (by rw [c13]; decide) (by rw [c13]; decide) (by rw [c13]; rfl) (by decide) ?_
        exact law_13 C hX hbl o13 hi1 hi2 hi3 hi4 hi5 MB MM hR H locs ls hst hl hn
      by_cases c14 : z = (14 : Int32)
      · refine lv_tableIn (tgt := 574) hx hb dL_law_33 (by rw [c14]; decide) (by rw [c14]; decide) (by rw [c14]; rfl) (by decide) ?_
        exact law_14 C hX hbl o14 hi1 hi2 hi3 hi4 hi5 MB MM hR H locs ls hst hl hn
      by_cases c15 : z = (15 : Int32)
      · refine lv_tableIn (tgt := 627) hx hb dL_law_33 (by rw [c15]; decide) (by rw [c15]; decide) (by rw [c15]; rfl) (by decide) ?_
        exact law_15 C hX hbl o15 hi1 hi2 hi3 hi4 hi5 MB MM hR H locs ls hst hl hn
      refine lv_tableOut (tgt := 660) hx hb dL_law_33 (tsO 15 (fun k hk => by rcases (show k = 0 ∨ k = 1 ∨ k = 2 ∨ k = 3 ∨ k = 4 ∨ k = 5 ∨ k = 6 ∨ k = 7 ∨ k = 8 ∨ k = 9 ∨ k = 10 ∨ k = 11 ∨ k = 12 ∨ k = 13 ∨ k = 14 ∨ k = 15 by omega) with rfl | rfl | rfl | rfl | rfl | rfl | rfl | rfl | rfl | rfl | rfl | rfl | rfl | rfl | rfl | rfl <;> assumption)) (by decide) ?_
      exact hn MB MM H locs ls hR hst hl
theorem TwS_of {D : va_G} {cI cZ : ClassId} {a g : Nat → Nat} {s : State} {H : Heap} {locs : List Loc} {MB MM : Mem} (hP : va_P D vwCl (wB cI cZ a MB ++ wM cI cZ g MM) H) (hD : va_D (AL s) (wB cI cZ a MB ++ wM cI cZ g MM)) (hS : va_S (AL s) s.heap H locs) : TwS D cI cZ a g s H locs MB MM := by
  have e1 : ∀ (k : Nat) (q : Nat × va_E), (wB cI cZ a MB)[k]? = some q → (wB cI cZ a MB ++ wM cI cZ g MM)[k]? = some q := fun k q h => by
    rw [List.getElem?_append_left (List.getElem?_eq_some_iff.mp h).1]; exact h
  have e2 : ∀ (k : Nat) (q : Nat × va_E), (wM cI cZ g MM)[k]? = some q → (wB cI cZ a MB ++ wM cI cZ g MM)[(wB cI cZ a MB).length + k]? = some q := fun k q h => by
    rw [List.getElem?_append_right (Nat.le_add_right _ _), Nat.add_sub_cancel_left]; exact h
  refine ⟨fun k q h => hP k q (e1 k q h), fun k q h => hP _ q (e2 k q h), ⟨⟨fun i j x y hx hy e => hD.1 i j x y (e1 i x hx) (e1 j y hy) e, fun k q h => hD.2 k q (e1 k q h)⟩, ⟨fun i j x y hx hy e => ?_, fun k q h => hD.2 _ q (e2 k q h)⟩, fun i j x y hx hy e => ?_⟩, hS⟩
  · have := hD.1 _ _ x y (e2 i x hx) (e2 j y hy) e
    omega
  · have h1 := hD.1 _ _ x y (e1 i x hx) (e2 j y hy) e
    have h2 := (List.getElem?_eq_some_iff.mp hx).1
    omega
set_option maxHeartbeats 4000000 in
set_option maxRecDepth 100000 in
theorem whole_open {Rel : Mem → Mem → Prop} (hops : Ops Rel) (h0 : Rel MB0 MM0) {p : Program} {e : Env} {s : State} {m : MethodId} {below : List Frame} {meth : Method} {c : Code} (l : Launch) {b L : Nat} {xs : Nat → Int32} (hL : L ≤ 3072) (C0 : lw_At p s m meth c b L xs) : W p l e room_1 s m #[Value.ref b] below meth c s.heap [] 0 0 (lw_Z below #[Value.ref b] s) (entryFrame m ([Value.ref b] : List Value).toArray 4) := by
  obtain ⟨hx, hb, hr, hml, hown, hts, hX, hbl, hlocks, hgv⟩ := id C0
  have hU : ∀ w ∈ UU, w.before #[Value.ref b] s = true := fun w h => hts w (UU_in w h)
  have hA : ∀ q : Nat, s.heap.size ≤ q → AL s q := fun _ h => h
  obtain ⟨c0, iS0, hKn0⟩ := u_known (C := RX0) (T := TX0) (N := 2) (n := 2) hU inX0 (hU (.instantiable RX0 2) (mU1 135 rfl rfl))
  obtain ⟨c1, iS1, hKn1⟩ := u_known (C := RX1) (T := TX1) (N := 5) (n := 5) hU inX1 (hU (.instantiable RX1 5) (mU1 148 rfl rfl))
  obtain ⟨c2, iS2, hKn2⟩ := u_known (C := RX2) (T := TX2) (N := 6) (n := 6) hU inX2 (hU (.instantiable RX2 6) (mU1 99 rfl rfl))
  obtain ⟨c3, iS3, hKn3⟩ := u_known (C := RX3) (T := TX3) (N := 4) (n := 4) hU inX3 (hU (.instantiable RX3 4) (mU1 22 rfl rfl))
  obtain ⟨c4, iS4, hKn4⟩ := u_known (C := RX4) (T := TX4) (N := 6) (n := 6) hU inX4 (hU (.instantiable RX4 6) (mU1 42 rfl rfl))
  obtain ⟨c5, iS5, hKn5⟩ := u_known (C := RX5) (T := TX5) (N := 4) (n := 4) hU inX5 (hU (.instantiable RX5 4) (mU1 67 rfl rfl))
  obtain ⟨c6, iS6, hKn6⟩ := u_known (C := RX6) (T := TX6) (N := 1) (n := 1) hU inX6 (hU (.instantiable RX6 1) (mU1 125 rfl rfl))
  obtain ⟨c7, iS7, hKn7⟩ := u_known (C := RX7) (T := TX7) (N := 2) (n := 2) hU inX7 (hU (.instantiable RX7 2) (mU1 86 rfl rfl))
  obtain ⟨c8, iS8, hKn8⟩ := u_known (C := RX8) (T := TX8) (N := 9) (n := 9) hU inX8 (hU (.instantiable RX8 9) (mU1 14 rfl rfl))
  obtain ⟨c9, iS9, hKn9⟩ := u_known (C := RX9) (T := TX9) (N := 25) (n := 25) hU inX9 (hU (.instantiable RX9 25) (mU3 47 rfl rfl))
  obtain ⟨dC, dI, hKc⟩ : ∃ (dC : Nat → ClassId) (dI : Nat → Nat → Nat), ∀ (k : Nat) (q : vw_C), vwCl[k]? = some q → u_Kn s q.1 q.2.1 q.2.2 (dC k) (dI k) := by
    refine ⟨fun k => if k = 0 then c0 else if k = 1 then c1 else if k = 2 then c2 else if k = 3 then c3 else if k = 4 then c4 else if k = 5 then c5 else if k = 6 then c6 else if k = 7 then c7 else if k = 8 then c8 else c9, fun k => if k = 0 then iS0 else if k = 1 then iS1 else if k = 2 then iS2 else if k = 3 then iS3 else if k = 4 then iS4 else if k = 5 then iS5 else if k = 6 then iS6 else if k = 7 then iS7 else if k = 8 then iS8 else iS9, ?_⟩
    intro k q hq
    match k, hq with
    | 0, hq => cases hq; exact hKn0
    | 1, hq => cases hq; exact hKn1
    | 2, hq => cases hq; exact hKn2
    | 3, hq => cases hq; exact hKn3
    | 4, hq => cases hq; exact hKn4
    | 5, hq => cases hq; exact hKn5
    | 6, hq => cases hq; exact hKn6
    | 7, hq => cases hq; exact hKn7
    | 8, hq => cases hq; exact hKn8
    | 9, hq => cases hq; exact hKn9
    | k + 10, hq => simp [vwCl] at hq
  obtain ⟨cI, kI, compI, i1, i2, i3⟩ := Cond.arrayClass_spec (hU (.arrayClass .int) (mU1 40 rfl rfl))
  obtain ⟨cZ, kZ, compZ, z1, z2, z3⟩ := Cond.arrayClass_spec (hU (.arrayClass .boolean) (mU1 123 rfl rfl))
  have hK : va_K (dC, dI) vwCl (tyl cI cZ) s := by
    refine ⟨hKc, fun k q h => ?_⟩
    match k, h with
    | 0, h => cases h; exact ⟨fun n z => ⟨fun k h => (by cases h), kI, i2, compI, i3⟩, i1⟩
    | 1, h => cases h; exact ⟨fun n z => ⟨fun k h => (by cases h), kZ, z2, compZ, z3⟩, z1⟩
    | k + 2, h => simp [tyl] at h
  have C : Cx p s m #[Value.ref b] meth c cL_law 4 RL ret (dC, dI) cI cZ (AL s) := ⟨hx, hb, hml, hown, hU, hr, hlocks, hK, hA⟩
  have hS : va_S (AL s) s.heap s.heap [] := va_S.rf
  have hP : va_P (dC, dI) vwCl [] s.heap := fun k q h => by simp at h
  have hD : va_D (AL s) [] := ⟨fun i j p q h => by simp at h, fun k q h => by simp at h⟩
  have hl := lv_entry ([.ref b]) (n := 4) (Nat.le_of_ble_eq_true rfl)
  rw [lg_entry_eq]
  generalize (lg_sl ([.ref b]) ++ List.replicate (4 - (lg_sl ([.ref b])).length) Slot.unset).toArray = ls at hl ⊢
  have hl : lv_has ls 4 [(0, .ref b)] := hl
  refine va_new (ci := 8) (fs := [.null, .null, .null, .null, .null, .null, .null, .null, .int 0]) (C := RX8) (T := TX8) (N := 9) hx hb hU inX8 tyX8 tyX8_ok hown (hU (.classLink RL 7 RX8) (mU1 13 rfl rfl)) (hU (.instantiable RX8 9) (mU1 14 rfl rfl)) (hU (.initialized RX8) (mU1 1 rfl rfl)) hK hP hD hS hA rfl (fun j hj => by rcases (show j = 0 ∨ j = 1 ∨ j = 2 ∨ j = 3 ∨ j = 4 ∨ j = 5 ∨ j = 6 ∨ j = 7 ∨ j = 8 by omega) with rfl | rfl | rfl | rfl | rfl | rfl | rfl | rfl | rfl <;> rfl) (Nat.le_of_ble_eq_true rfl) (Nat.le_of_ble_eq_true rfl) dL_law_0 (fun hq H hP hD hS => ?_)
  have hP : va_P (dC, dI) vwCl [(hq, .inr (8, [.null, .null, .null, .null, .null, .null, .null, .null, .int 0]))] H := hP
  have hD : va_D (AL s) [(hq, .inr (8, [.null, .null, .null, .null, .null, .null, .null, .null, .int 0]))] := hD
  refine lv_dup hx hb dL_law_3 rfl ?_
  refine c_call (As := []) (rest := [.ref hq]) (wr := []) C (mX8_init l (dC, dI) cI cZ hq) calX8_init rfl (mU1 16 rfl rfl) (mU1 15 rfl rfl) hP hD hS hl.1 [0] [] rfl rfl (by decide) (by decide) (by decide) rfl rfl (Nat.le_of_ble_eq_true rfl) ⟨Nat.le_of_ble_eq_true rfl, Nat.le_of_ble_eq_true rfl⟩ ⟨Nat.le_of_ble_eq_true rfl, Nat.le_of_ble_eq_true rfl⟩ dL_law_4 (fun u H locs hP hD hS => ?_)
  have hP : va_P (dC, dI) vwCl (wB cI cZ (fun k => if k = 0 then hq else u k) MB0) H := hP
  have hD : va_D (AL s) (wB cI cZ (fun k => if k = 0 then hq else u k) MB0) := hD
  refine lv_astore_n (lv' := [(1, .ref hq), (0, .ref b)]) hx hb dL_law_7 rfl hl (by decide) rfl (fun ls hl => ?_)
  refine va_new (ci := 9) (fs := [.int 0, .int 0, .int 0, .int 0, .null, .null, .null, .null, .null, .null, .null, .null, .null, .null, .int 0, .int 0, .null, .null, .null, .null, .null, .null, .null, .null, .int 0]) (C := RX9) (T := TX9) (N := 25) hx hb hU inX9 tyX9 tyX9_ok hown (hU (.classLink RL 10 RX9) (mU3 46 rfl rfl)) (hU (.instantiable RX9 25) (mU3 47 rfl rfl)) (hU (.initialized RX9) (mU1 10 rfl rfl)) hK hP hD hS hA rfl (fun j hj => by rcases (show j = 0 ∨ j = 1 ∨ j = 2 ∨ j = 3 ∨ j = 4 ∨ j = 5 ∨ j = 6 ∨ j = 7 ∨ j = 8 ∨ j = 9 ∨ j = 10 ∨ j = 11 ∨ j = 12 ∨ j = 13 ∨ j = 14 ∨ j = 15 ∨ j = 16 ∨ j = 17 ∨ j = 18 ∨ j = 19 ∨ j = 20 ∨ j = 21 ∨ j = 22 ∨ j = 23 ∨ j = 24 by omega) with rfl | rfl | rfl | rfl | rfl | rfl | rfl | rfl | rfl | rfl | rfl | rfl | rfl | rfl | rfl | rfl | rfl | rfl | rfl | rfl | rfl | rfl | rfl | rfl | rfl <;> rfl) (Nat.le_of_ble_eq_true rfl) (Nat.le_of_ble_eq_true rfl) dL_law_8 (fun hq2 H hP hD hS => ?_)
  have hP : va_P (dC, dI) vwCl (wB cI cZ (fun k => if k = 0 then hq else u k) MB0 ++ [(hq2, .inr (9, [.int 0, .int 0, .int 0, .int 0, .null, .null, .null, .null, .null, .null, .null, .null, .null, .null, .int 0, .int 0, .null, .null, .null, .null, .null, .null, .null, .null, .int 0]))]) H := hP
  have hD : va_D (AL s) (wB cI cZ (fun k => if k = 0 then hq else u k) MB0 ++ [(hq2, .inr (9, [.int 0, .int 0, .int 0, .int 0, .null, .null, .null, .null, .null, .null, .null, .null, .null, .null, .int 0, .int 0, .null, .null, .null, .null, .null, .null, .null, .null, .int 0]))]) := hD
  refine lv_dup hx hb dL_law_11 rfl ?_
  refine c_call (As := []) (rest := [.ref hq2]) (wc := [(hq2, .inr (9, [.int 0, .int 0, .int 0, .int 0, .null, .null, .null, .null, .null, .null, .null, .null, .null, .null, .int 0, .int 0, .null, .null, .null, .null, .null, .null, .null, .null, .int 0]))]) (wr := wB cI cZ (fun k => if k = 0 then hq else u k) MB0) C (mX9_init l (dC, dI) cI cZ hq2) calX9_init rfl (mU3 49 rfl rfl) (mU3 48 rfl rfl) hP hD hS hl.1 [27] [0, 1, 2, 3, 4, 5, 6, 7, 8, 9, 10, 11, 12, 13, 14, 15, 16, 17, 18, 19, 20, 21, 22, 23, 24, 25, 26] rfl rfl (by decide) (by decide) (by decide) rfl rfl (Nat.le_of_ble_eq_true rfl) ⟨Nat.le_of_ble_eq_true rfl, Nat.le_of_ble_eq_true rfl⟩ ⟨Nat.le_of_ble_eq_true rfl, Nat.le_of_ble_eq_true rfl⟩ dL_law_12 (fun u2 H locs hP hD hS => ?_)
  have hst : TwS (dC, dI) cI cZ (fun k => if k = 0 then hq else u k) (fun k => if k = 0 then hq2 else u2 k) s H locs MB0 MM0 := TwS_of hP hD hS
  refine lv_astore_n (lv' := [(2, .ref hq2), (1, .ref hq), (0, .ref b)]) hx hb dL_law_15 rfl hl (by decide) rfl (fun ls hl => ?_)
  refine lv_iconst (v := 0) hx hb dL_law_16 (by decide) ?_
  refine lv_istore_n (lv' := [(3, .int 0), (2, .ref hq2), (1, .ref hq), (0, .ref b)]) hx hb dL_law_17 rfl hl (by decide) rfl (fun ls hl => ?_)
  refine W.widen (k := 46) (n := 25508) (Nat.le_of_ble_eq_true rfl) (Nat.le_of_ble_eq_true rfl) ?_
  exact law_loop C hX hbl hL hops (L + 1) 0 0 (Nat.zero_le L) (by omega) rfl MB0 MM0 H locs ls h0 hst (lv_sub hl [3, 2, 1, 0] rfl)

theorem calX3_init : Cal yX3_init cX3_init 1 none 0 := ⟨(mU1 25 rfl rfl), (mU1 2 rfl rfl), by decide +kernel⟩
set_option maxHeartbeats 4000000 in
set_option maxRecDepth 100000 in
theorem mX3_init (l : Launch) (D : va_G) (cI cZ : ClassId) (h0 : Nat) : Mc l D cI cZ yX3_init cX3_init 1 1 20 3 12012 [.ref h0] [(h0, .inr (3, [.null, .null, .null, .int 0]))] (fun u => [(h0, .inr (3, [.ref (u 0), .ref (u 1), .ref (u 2), .int 0])), ((u 0), .inl (cI, 12000, .inl (fun _ => 0))), ((u 1), .inl (cI, 6, .inl (fun _ => 0))), ((u 2), .inl (cI, 6, .inl (fun _ => 0)))]) := by
  refine Mc.of (by decide) rfl (Nat.le_of_ble_eq_true rfl) (fun p e s m args below meth c A C hin hP hD hS ls hl => ?_)
  obtain ⟨hx, hb, hml, hown, hU, hr, hlk, hK, hA⟩ := id C
  have hl : lv_has ls 1 [(0, .ref h0)] := hl
  refine lv_aload_n hx hb dX3_init_0 rfl (lv_at hl 0 rfl) ?_
  refine W.objInit hx hb hown (hU (.methodLink RX3 3 Lib.objectInit) (mU1 26 rfl rfl)) (hU (.instanceMethod Lib.objectInit) (mU1 19 rfl rfl)) (hU (.code Lib.objectInit ⟨#[0xb1]⟩ 1 none) (mU1 20 rfl rfl)) rfl (by rw [hml]; exact hl.1) rfl dX3_init_1 (Nat.le_of_ble_eq_true rfl) (Nat.le_of_ble_eq_true rfl) ?_
  refine W.eq (g2 := F0 m 4 ls []) rfl ?_
  refine lv_aload_n hx hb dX3_init_4 rfl (lv_at hl 0 rfl) ?_
  refine lv_sipush (v := 12000) hx hb dX3_init_5 (by decide) ?_
  refine c_newI (N := 12000) C (mU1 40 rfl rfl) hP hD hS (by decide) (by decide) (by decide) (Nat.le_of_ble_eq_true rfl) (Nat.le_of_ble_eq_true rfl) dX3_init_8 (fun q8 H hP hD hS => ?_)
  have hP : va_P D vwCl [(h0, .inr (3, [.null, .null, .null, .int 0])), (q8, .inl (cI, 12000, .inl (fun _ => 0)))] H := hP
  have hD : va_D A [(h0, .inr (3, [.null, .null, .null, .int 0])), (q8, .inl (cI, 12000, .inl (fun _ => 0)))] := hD
  refine va_putF (D := D) (ci := 3) (v := .ref q8) (ty := .array .int) (C := RX3) (T := TX3) (N := 4) hx hb hU inX3 tyX3 tyX3_ok nmX3 hown hK hP hD hS 0 rfl rfl 0 (by decide) (hU (.fieldLink RX3 9 "BillWatch$Ledger" "past" "[I") (mU1 27 rfl rfl)) (fun _ h9 => h9) rfl hin rfl (by decide +kernel) rfl rfl (Nat.le_of_ble_eq_true rfl) dX3_init_10 (fun H locs hP hD hS => ?_)
  have hP : va_P D vwCl [(h0, .inr (3, [.ref q8, .null, .null, .int 0])), (q8, .inl (cI, 12000, .inl (fun _ => 0)))] H := hP
  have hD : va_D A [(h0, .inr (3, [.ref q8, .null, .null, .int 0])), (q8, .inl (cI, 12000, .inl (fun _ => 0)))] := hD
  refine lv_aload_n hx hb dX3_init_13 rfl (lv_at hl 0 rfl) ?_
  refine lv_bipush (v := 6) hx hb dX3_init_14 (by decide) ?_
  refine c_newI (N := 6) C (mU1 40 rfl rfl) hP hD hS (by decide) (by decide) (by decide) (Nat.le_of_ble_eq_true rfl) (Nat.le_of_ble_eq_true rfl) dX3_init_16 (fun q16 H hP hD hS => ?_)
  have hP : va_P D vwCl [(h0, .inr (3, [.ref q8, .null, .null, .int 0])), (q8, .inl (cI, 12000, .inl (fun _ => 0))), (q16, .inl (cI, 6, .inl (fun _ => 0)))] H := hP
  have hD : va_D A [(h0, .inr (3, [.ref q8, .null, .null, .int 0])), (q8, .inl (cI, 12000, .inl (fun _ => 0))), (q16, .inl (cI, 6, .inl (fun _ => 0)))] := hD
  refine va_putF (D := D) (ci := 3) (v := .ref q16) (ty := .array .int) (C := RX3) (T := TX3) (N := 4) hx hb hU inX3 tyX3 tyX3_ok nmX3 hown hK hP hD hS 0 rfl rfl 1 (by decide) (hU (.fieldLink RX3 15 "BillWatch$Ledger" "running" "[I") (mU1 28 rfl rfl)) (fun _ h9 => h9) rfl hin rfl (by decide +kernel) rfl rfl (Nat.le_of_ble_eq_true rfl) dX3_init_18 (fun H locs hP hD hS => ?_)
  have hP : va_P D vwCl [(h0, .inr (3, [.ref q8, .ref q16, .null, .int 0])), (q8, .inl (cI, 12000, .inl (fun _ => 0))), (q16, .inl (cI, 6, .inl (fun _ => 0)))] H := hP
  have hD : va_D A [(h0, .inr (3, [.ref q8, .ref q16, .null, .int 0])), (q8, .inl (cI, 12000, .inl (fun _ => 0))), (q16, .inl (cI, 6, .inl (fun _ => 0)))] := hD
  refine lv_aload_n hx hb dX3_init_21 rfl (lv_at hl 0 rfl) ?_
  refine lv_bipush (v := 6) hx hb dX3_init_22 (by decide) ?_
  refine c_newI (N := 6) C (mU1 40 rfl rfl) hP hD hS (by decide) (by decide) (by decide) (Nat.le_of_ble_eq_true rfl) (Nat.le_of_ble_eq_true rfl) dX3_init_24 (fun q24 H hP hD hS => ?_)
  have hP : va_P D vwCl [(h0, .inr (3, [.ref q8, .ref q16, .null, .int 0])), (q8, .inl (cI, 12000, .inl (fun _ => 0))), (q16, .inl (cI, 6, .inl (fun _ => 0))), (q24, .inl (cI, 6, .inl (fun _ => 0)))] H := hP
  have hD : va_D A [(h0, .inr (3, [.ref q8, .ref q16, .null, .int 0])), (q8, .inl (cI, 12000, .inl (fun _ => 0))), (q16, .inl (cI, 6, .inl (fun _ => 0))), (q24, .inl (cI, 6, .inl (fun _ => 0)))] := hD
  refine va_putF (D := D) (ci := 3) (v := .ref q24) (ty := .array .int) (C := RX3) (T := TX3) (N := 4) hx hb hU inX3 tyX3 tyX3_ok nmX3 hown hK hP hD hS 0 rfl rfl 2 (by decide) (hU (.fieldLink RX3 18 "BillWatch$Ledger" "used" "[I") (mU1 29 rfl rfl)) (fun _ h9 => h9) rfl hin rfl (by decide +kernel) rfl rfl (Nat.le_of_ble_eq_true rfl) dX3_init_26 (fun H locs hP hD hS => ?_)
  have hP : va_P D vwCl [(h0, .inr (3, [.ref q8, .ref q16, .ref q24, .int 0])), (q8, .inl (cI, 12000, .inl (fun _ => 0))), (q16, .inl (cI, 6, .inl (fun _ => 0))), (q24, .inl (cI, 6, .inl (fun _ => 0)))] H := hP
  have hD : va_D A [(h0, .inr (3, [.ref q8, .ref q16, .ref q24, .int 0])), (q8, .inl (cI, 12000, .inl (fun _ => 0))), (q16, .inl (cI, 6, .inl (fun _ => 0))), (q24, .inl (cI, 6, .inl (fun _ => 0)))] := hD
  refine lv_aload_n hx hb dX3_init_29 rfl (lv_at hl 0 rfl) ?_
  refine lv_iconst (v := 0) hx hb dX3_init_30 (by decide) ?_
  refine va_put (D := D) (ci := 3) (v := .int 0) (ty := .int) (C := RX3) (T := TX3) (N := 4) hx hb hU inX3 tyX3 tyX3_ok nmX3 hown hK hP hD hS 0 rfl rfl 3 (by decide) (hU (.fieldLink RX3 21 "BillWatch$Ledger" "now" "I") (mU1 30 rfl rfl)) (fun _ h9 => h9) rfl (by decide +kernel) rfl rfl (Nat.le_of_ble_eq_true rfl) dX3_init_31 (fun H locs hP hD hS => ?_)
  have hP : va_P D vwCl [(h0, .inr (3, [.ref q8, .ref q16, .ref q24, .int 0])), (q8, .inl (cI, 12000, .inl (fun _ => 0))), (q16, .inl (cI, 6, .inl (fun _ => 0))), (q24, .inl (cI, 6, .inl (fun _ => 0)))] H := hP
  have hD : va_D A [(h0, .inr (3, [.ref q8, .ref q16, .ref q24, .int 0])), (q8, .inl (cI, 12000, .inl (fun _ => 0))), (q16, .inl (cI, 6, .inl (fun _ => 0))), (q24, .inl (cI, 6, .inl (fun _ => 0)))] := hD
  have hP9 := va_P_of hP (is := [0, 1, 2, 3]) (w := [(h0, .inr (3, [.ref q8, .ref q16, .ref q24, .int 0])), (q8, .inl (cI, 12000, .inl (fun _ => 0))), (q16, .inl (cI, 6, .inl (fun _ => 0))), (q24, .inl (cI, 6, .inl (fun _ => 0)))]) rfl
  have hD9 := hD.sub (ws' := [(h0, .inr (3, [.ref q8, .ref q16, .ref q24, .int 0])), (q8, .inl (cI, 12000, .inl (fun _ => 0))), (q16, .inl (cI, 6, .inl (fun _ => 0))), (q24, .inl (cI, 6, .inl (fun _ => 0)))]) [0, 1, 2, 3] (by decide) rfl
  refine W.widen (k := 3) (n := 12012) (Nat.le_of_ble_eq_true rfl) (Nat.le_of_ble_eq_true rfl) ?_
  exact W.vret hx hb hr (fun t ht hW => ⟨⟨fun k => [q8, q16, q24].getD k 0, rfl, trivial, by rw [ht]; exact hP9, hD9⟩, hS.F ht⟩) hS.2.2 dX3_init_34 hlk
theorem calX4_init : Cal yX4_init cX4_init 1 none 0 := ⟨(mU1 45 rfl rfl), (mU1 3 rfl rfl), by decide +kernel⟩
set_option maxHeartbeats 4000000 in
set_option maxRecDepth 100000 in
theorem mX4_init (l : Launch) (D : va_G) (cI cZ : ClassId) (h0 : Nat) : Mc l D cI cZ yX4_init cX4_init 1 1 20 4 160 [.ref h0] [(h0, .inr (4, [.null, .null, .null, .null, .int 0, .int 0]))] (fun u => [(h0, .inr (4, [.ref (u 0), .ref (u 1), .ref (u 2), .ref (u 3), .int 0, .int 0])), ((u 0), .inl (cI, 40, .inl (fun _ => 0))), ((u 1), .inl (cI, 40, .inl (fun _ => 0))), ((u 2), .inl (cI, 40, .inl (fun _ => 0))), ((u 3), .inl (cI, 40, .inl (fun _ => 0)))]) := by
  refine Mc.of (by decide) rfl (Nat.le_of_ble_eq_true rfl) (fun p e s m args below meth c A C hin hP hD hS ls hl => ?_)
  obtain ⟨hx, hb, hml, hown, hU, hr, hlk, hK, hA⟩ := id C
  have hl : lv_has ls 1 [(0, .ref h0)] := hl
  refine lv_aload_n hx hb dX4_init_0 rfl (lv_at hl 0 rfl) ?_
  refine W.objInit hx hb hown (hU (.methodLink RX4 3 Lib.objectInit) (mU1 46 rfl rfl)) (hU (.instanceMethod Lib.objectInit) (mU1 19 rfl rfl)) (hU (.code Lib.objectInit ⟨#[0xb1]⟩ 1 none) (mU1 20 rfl rfl)) rfl (by rw [hml]; exact hl.1) rfl dX4_init_1 (Nat.le_of_ble_eq_true rfl) (Nat.le_of_ble_eq_true rfl) ?_
  refine W.eq (g2 := F0 m 4 ls []) rfl ?_
  refine lv_aload_n hx hb dX4_init_4 rfl (lv_at hl 0 rfl) ?_
  refine lv_bipush (v := 40) hx hb dX4_init_5 (by decide) ?_
  refine c_newI (N := 40) C (mU1 40 rfl rfl) hP hD hS (by decide) (by decide) (by decide) (Nat.le_of_ble_eq_true rfl) (Nat.le_of_ble_eq_true rfl) dX4_init_7 (fun q7 H hP hD hS => ?_)
  have hP : va_P D vwCl [(h0, .inr (4, [.null, .null, .null, .null, .int 0, .int 0])), (q7, .inl (cI, 40, .inl (fun _ => 0)))] H := hP
  have hD : va_D A [(h0, .inr (4, [.null, .null, .null, .null, .int 0, .int 0])), (q7, .inl (cI, 40, .inl (fun _ => 0)))] := hD
  refine va_putF (D := D) (ci := 4) (v := .ref q7) (ty := .array .int) (C := RX4) (T := TX4) (N := 6) hx hb hU inX4 tyX4 tyX4_ok nmX4 hown hK hP hD hS 0 rfl rfl 0 (by decide) (hU (.fieldLink RX4 9 "BillWatch$Machines" "service" "[I") (mU1 47 rfl rfl)) (fun _ h9 => h9) rfl hin rfl (by decide +kernel) rfl rfl (Nat.le_of_ble_eq_true rfl) dX4_init_9 (fun H locs hP hD hS => ?_)
  have hP : va_P D vwCl [(h0, .inr (4, [.ref q7, .null, .null, .null, .int 0, .int 0])), (q7, .inl (cI, 40, .inl (fun _ => 0)))] H := hP
  have hD : va_D A [(h0, .inr (4, [.ref q7, .null, .null, .null, .int 0, .int 0])), (q7, .inl (cI, 40, .inl (fun _ => 0)))] := hD
  refine lv_aload_n hx hb dX4_init_12 rfl (lv_at hl 0 rfl) ?_
  refine lv_bipush (v := 40) hx hb dX4_init_13 (by decide) ?_
  refine c_newI (N := 40) C (mU1 40 rfl rfl) hP hD hS (by decide) (by decide) (by decide) (Nat.le_of_ble_eq_true rfl) (Nat.le_of_ble_eq_true rfl) dX4_init_15 (fun q15 H hP hD hS => ?_)
  have hP : va_P D vwCl [(h0, .inr (4, [.ref q7, .null, .null, .null, .int 0, .int 0])), (q7, .inl (cI, 40, .inl (fun _ => 0))), (q15, .inl (cI, 40, .inl (fun _ => 0)))] H := hP
  have hD : va_D A [(h0, .inr (4, [.ref q7, .null, .null, .null, .int 0, .int 0])), (q7, .inl (cI, 40, .inl (fun _ => 0))), (q15, .inl (cI, 40, .inl (fun _ => 0)))] := hD
  refine va_putF (D := D) (ci := 4) (v := .ref q15) (ty := .array .int) (C := RX4) (T := TX4) (N := 6) hx hb hU inX4 tyX4 tyX4_ok nmX4 hown hK hP hD hS 0 rfl rfl 1 (by decide) (hU (.fieldLink RX4 15 "BillWatch$Machines" "price" "[I") (mU1 48 rfl rfl)) (fun _ h9 => h9) rfl hin rfl (by decide +kernel) rfl rfl (Nat.le_of_ble_eq_true rfl) dX4_init_17 (fun H locs hP hD hS => ?_)
  have hP : va_P D vwCl [(h0, .inr (4, [.ref q7, .ref q15, .null, .null, .int 0, .int 0])), (q7, .inl (cI, 40, .inl (fun _ => 0))), (q15, .inl (cI, 40, .inl (fun _ => 0)))] H := hP
  have hD : va_D A [(h0, .inr (4, [.ref q7, .ref q15, .null, .null, .int 0, .int 0])), (q7, .inl (cI, 40, .inl (fun _ => 0))), (q15, .inl (cI, 40, .inl (fun _ => 0)))] := hD
  refine lv_aload_n hx hb dX4_init_20 rfl (lv_at hl 0 rfl) ?_
  refine lv_bipush (v := 40) hx hb dX4_init_21 (by decide) ?_
  refine c_newI (N := 40) C (mU1 40 rfl rfl) hP hD hS (by decide) (by decide) (by decide) (Nat.le_of_ble_eq_true rfl) (Nat.le_of_ble_eq_true rfl) dX4_init_23 (fun q23 H hP hD hS => ?_)
  have hP : va_P D vwCl [(h0, .inr (4, [.ref q7, .ref q15, .null, .null, .int 0, .int 0])), (q7, .inl (cI, 40, .inl (fun _ => 0))), (q15, .inl (cI, 40, .inl (fun _ => 0))), (q23, .inl (cI, 40, .inl (fun _ => 0)))] H := hP
  have hD : va_D A [(h0, .inr (4, [.ref q7, .ref q15, .null, .null, .int 0, .int 0])), (q7, .inl (cI, 40, .inl (fun _ => 0))), (q15, .inl (cI, 40, .inl (fun _ => 0))), (q23, .inl (cI, 40, .inl (fun _ => 0)))] := hD
  refine va_putF (D := D) (ci := 4) (v := .ref q23) (ty := .array .int) (C := RX4) (T := TX4) (N := 6) hx hb hU inX4 tyX4 tyX4_ok nmX4 hown hK hP hD hS 0 rfl rfl 2 (by decide) (hU (.fieldLink RX4 18 "BillWatch$Machines" "begun" "[I") (mU1 49 rfl rfl)) (fun _ h9 => h9) rfl hin rfl (by decide +kernel) rfl rfl (Nat.le_of_ble_eq_true rfl) dX4_init_25 (fun H locs hP hD hS => ?_)
  have hP : va_P D vwCl [(h0, .inr (4, [.ref q7, .ref q15, .ref q23, .null, .int 0, .int 0])), (q7, .inl (cI, 40, .inl (fun _ => 0))), (q15, .inl (cI, 40, .inl (fun _ => 0))), (q23, .inl (cI, 40, .inl (fun _ => 0)))] H := hP
  have hD : va_D A [(h0, .inr (4, [.ref q7, .ref q15, .ref q23, .null, .int 0, .int 0])), (q7, .inl (cI, 40, .inl (fun _ => 0))), (q15, .inl (cI, 40, .inl (fun _ => 0))), (q23, .inl (cI, 40, .inl (fun _ => 0)))] := hD
  refine lv_aload_n hx hb dX4_init_28 rfl (lv_at hl 0 rfl) ?_
  refine lv_bipush (v := 40) hx hb dX4_init_29 (by decide) ?_
  refine c_newI (N := 40) C (mU1 40 rfl rfl) hP hD hS (by decide) (by decide) (by decide) (Nat.le_of_ble_eq_true rfl) (Nat.le_of_ble_eq_true rfl) dX4_init_31 (fun q31 H hP hD hS => ?_)
  have hP : va_P D vwCl [(h0, .inr (4, [.ref q7, .ref q15, .ref q23, .null, .int 0, .int 0])), (q7, .inl (cI, 40, .inl (fun _ => 0))), (q15, .inl (cI, 40, .inl (fun _ => 0))), (q23, .inl (cI, 40, .inl (fun _ => 0))), (q31, .inl (cI, 40, .inl (fun _ => 0)))] H := hP
  have hD : va_D A [(h0, .inr (4, [.ref q7, .ref q15, .ref q23, .null, .int 0, .int 0])), (q7, .inl (cI, 40, .inl (fun _ => 0))), (q15, .inl (cI, 40, .inl (fun _ => 0))), (q23, .inl (cI, 40, .inl (fun _ => 0))), (q31, .inl (cI, 40, .inl (fun _ => 0)))] := hD
  refine va_putF (D := D) (ci := 4) (v := .ref q31) (ty := .array .int) (C := RX4) (T := TX4) (N := 6) hx hb hU inX4 tyX4 tyX4_ok nmX4 hown hK hP hD hS 0 rfl rfl 3 (by decide) (hU (.fieldLink RX4 21 "BillWatch$Machines" "stopped" "[I") (mU1 50 rfl rfl)) (fun _ h9 => h9) rfl hin rfl (by decide +kernel) rfl rfl (Nat.le_of_ble_eq_true rfl) dX4_init_33 (fun H locs hP hD hS => ?_)
  have hP : va_P D vwCl [(h0, .inr (4, [.ref q7, .ref q15, .ref q23, .ref q31, .int 0, .int 0])), (q7, .inl (cI, 40, .inl (fun _ => 0))), (q15, .inl (cI, 40, .inl (fun _ => 0))), (q23, .inl (cI, 40, .inl (fun _ => 0))), (q31, .inl (cI, 40, .inl (fun _ => 0)))] H := hP
  have hD : va_D A [(h0, .inr (4, [.ref q7, .ref q15, .ref q23, .ref q31, .int 0, .int 0])), (q7, .inl (cI, 40, .inl (fun _ => 0))), (q15, .inl (cI, 40, .inl (fun _ => 0))), (q23, .inl (cI, 40, .inl (fun _ => 0))), (q31, .inl (cI, 40, .inl (fun _ => 0)))] := hD
  refine lv_aload_n hx hb dX4_init_36 rfl (lv_at hl 0 rfl) ?_
  refine lv_iconst (v := 0) hx hb dX4_init_37 (by decide) ?_
  refine va_put (D := D) (ci := 4) (v := .int 0) (ty := .int) (C := RX4) (T := TX4) (N := 6) hx hb hU inX4 tyX4 tyX4_ok nmX4 hown hK hP hD hS 0 rfl rfl 4 (by decide) (hU (.fieldLink RX4 24 "BillWatch$Machines" "count" "I") (mU1 51 rfl rfl)) (fun _ h9 => h9) rfl (by decide +kernel) rfl rfl (Nat.le_of_ble_eq_true rfl) dX4_init_38 (fun H locs hP hD hS => ?_)
  have hP : va_P D vwCl [(h0, .inr (4, [.ref q7, .ref q15, .ref q23, .ref q31, .int 0, .int 0])), (q7, .inl (cI, 40, .inl (fun _ => 0))), (q15, .inl (cI, 40, .inl (fun _ => 0))), (q23, .inl (cI, 40, .inl (fun _ => 0))), (q31, .inl (cI, 40, .inl (fun _ => 0)))] H := hP
  have hD : va_D A [(h0, .inr (4, [.ref q7, .ref q15, .ref q23, .ref q31, .int 0, .int 0])), (q7, .inl (cI, 40, .inl (fun _ => 0))), (q15, .inl (cI, 40, .inl (fun _ => 0))), (q23, .inl (cI, 40, .inl (fun _ => 0))), (q31, .inl (cI, 40, .inl (fun _ => 0)))] := hD
  refine lv_aload_n hx hb dX4_init_41 rfl (lv_at hl 0 rfl) ?_
  refine lv_iconst (v := 0) hx hb dX4_init_42 (by decide) ?_
  refine va_put (D := D) (ci := 4) (v := .int 0) (ty := .int) (C := RX4) (T := TX4) (N := 6) hx hb hU inX4 tyX4 tyX4_ok nmX4 hown hK hP hD hS 0 rfl rfl 5 (by decide) (hU (.fieldLink RX4 28 "BillWatch$Machines" "runningCount" "I") (mU1 52 rfl rfl)) (fun _ h9 => h9) rfl (by decide +kernel) rfl rfl (Nat.le_of_ble_eq_true rfl) dX4_init_43 (fun H locs hP hD hS => ?_)
  have hP : va_P D vwCl [(h0, .inr (4, [.ref q7, .ref q15, .ref q23, .ref q31, .int 0, .int 0])), (q7, .inl (cI, 40, .inl (fun _ => 0))), (q15, .inl (cI, 40, .inl (fun _ => 0))), (q23, .inl (cI, 40, .inl (fun _ => 0))), (q31, .inl (cI, 40, .inl (fun _ => 0)))] H := hP
  have hD : va_D A [(h0, .inr (4, [.ref q7, .ref q15, .ref q23, .ref q31, .int 0, .int 0])), (q7, .inl (cI, 40, .inl (fun _ => 0))), (q15, .inl (cI, 40, .inl (fun _ => 0))), (q23, .inl (cI, 40, .inl (fun _ => 0))), (q31, .inl (cI, 40, .inl (fun _ => 0)))] := hD
  have hP9 := va_P_of hP (is := [0, 1, 2, 3, 4]) (w := [(h0, .inr (4, [.ref q7, .ref q15, .ref q23, .ref q31, .int 0, .int 0])), (q7, .inl (cI, 40, .inl (fun _ => 0))), (q15, .inl (cI, 40, .inl (fun _ => 0))), (q23, .inl (cI, 40, .inl (fun _ => 0))), (q31, .inl (cI, 40, .inl (fun _ => 0)))]) rfl
  have hD9 := hD.sub (ws' := [(h0, .inr (4, [.ref q7, .ref q15, .ref q23, .ref q31, .int 0, .int 0])), (q7, .inl (cI, 40, .inl (fun _ => 0))), (q15, .inl (cI, 40, .inl (fun _ => 0))), (q23, .inl (cI, 40, .inl (fun _ => 0))), (q31, .inl (cI, 40, .inl (fun _ => 0)))]) [0, 1, 2, 3, 4] (by decide) rfl
  refine W.widen (k := 4) (n := 160) (Nat.le_of_ble_eq_true rfl) (Nat.le_of_ble_eq_true rfl) ?_
  exact W.vret hx hb hr (fun t ht hW => ⟨⟨fun k => [q7, q15, q23, q31].getD k 0, rfl, trivial, by rw [ht]; exact hP9, hD9⟩, hS.F ht⟩) hS.2.2 dX4_init_46 hlk
theorem calX5_init : Cal yX5_init cX5_init 2 none 1 := ⟨(mU1 70 rfl rfl), (mU1 4 rfl rfl), by decide +kernel⟩
set_option maxHeartbeats 4000000 in
set_option maxRecDepth 100000 in
theorem mX5_init (l : Launch) (D : va_G) (cI cZ : ClassId) (h0 p1 : Nat) : Mc l D cI cZ yX5_init cX5_init 2 1 20 1 7 [.ref h0, .ref p1] [(h0, .inr (5, [.null, .null, .int 0, .int 0]))] (fun u => [(h0, .inr (5, [.ref p1, .ref (u 0), .int 0, .int 0])), ((u 0), .inl (cI, 7, .inl (fun _ => 0)))]) := by
  refine Mc.of (by decide) rfl (Nat.le_of_ble_eq_true rfl) (fun p e s m args below meth c A C hin hP hD hS ls hl => ?_)
  obtain ⟨hx, hb, hml, hown, hU, hr, hlk, hK, hA⟩ := id C
  have hl : lv_has ls 2 [(0, .ref h0), (1, .ref p1)] := hl
  refine lv_aload_n hx hb dX5_init_0 rfl (lv_at hl 0 rfl) ?_
  refine W.objInit hx hb hown (hU (.methodLink RX5 3 Lib.objectInit) (mU1 71 rfl rfl)) (hU (.instanceMethod Lib.objectInit) (mU1 19 rfl rfl)) (hU (.code Lib.objectInit ⟨#[0xb1]⟩ 1 none) (mU1 20 rfl rfl)) rfl (by rw [hml]; exact hl.1) rfl dX5_init_1 (Nat.le_of_ble_eq_true rfl) (Nat.le_of_ble_eq_true rfl) ?_
  refine W.eq (g2 := F0 m 4 ls []) rfl ?_
  refine lv_aload_n hx hb dX5_init_4 rfl (lv_at hl 0 rfl) ?_
  refine lv_aload_n hx hb dX5_init_5 rfl (lv_at hl 1 rfl) ?_
  refine va_putF (D := D) (ci := 5) (v := .ref p1) (ty := .object "BillWatch$Ledger") (C := RX5) (T := TX5) (N := 4) hx hb hU inX5 tyX5 tyX5_ok nmX5 hown hK hP hD hS 0 rfl rfl 0 (by decide) (hU (.fieldLink RX5 9 "BillWatch$Seasons" "ledger" "LBillWatch$Ledger;") (mU1 72 rfl rfl)) (fun _ h9 => h9) rfl hin rfl (by decide +kernel) rfl rfl (Nat.le_of_ble_eq_true rfl) dX5_init_6 (fun H locs hP hD hS => ?_)
  have hP : va_P D vwCl [(h0, .inr (5, [.ref p1, .null, .int 0, .int 0]))] H := hP
  have hD : va_D A [(h0, .inr (5, [.ref p1, .null, .int 0, .int 0]))] := hD
  refine lv_aload_n hx hb dX5_init_9 rfl (lv_at hl 0 rfl) ?_
  refine lv_bipush (v := 7) hx hb dX5_init_10 (by decide) ?_
  refine c_newI (N := 7) C (mU1 40 rfl rfl) hP hD hS (by decide) (by decide) (by decide) (Nat.le_of_ble_eq_true rfl) (Nat.le_of_ble_eq_true rfl) dX5_init_12 (fun q12 H hP hD hS => ?_)
  have hP : va_P D vwCl [(h0, .inr (5, [.ref p1, .null, .int 0, .int 0])), (q12, .inl (cI, 7, .inl (fun _ => 0)))] H := hP
  have hD : va_D A [(h0, .inr (5, [.ref p1, .null, .int 0, .int 0])), (q12, .inl (cI, 7, .inl (fun _ => 0)))] := hD
  refine va_putF (D := D) (ci := 5) (v := .ref q12) (ty := .array .int) (C := RX5) (T := TX5) (N := 4) hx hb hU inX5 tyX5 tyX5_ok nmX5 hown hK hP hD hS 0 rfl rfl 1 (by decide) (hU (.fieldLink RX5 15 "BillWatch$Seasons" "row" "[I") (mU1 73 rfl rfl)) (fun _ h9 => h9) rfl hin rfl (by decide +kernel) rfl rfl (Nat.le_of_ble_eq_true rfl) dX5_init_14 (fun H locs hP hD hS => ?_)
  have hP : va_P D vwCl [(h0, .inr (5, [.ref p1, .ref q12, .int 0, .int 0])), (q12, .inl (cI, 7, .inl (fun _ => 0)))] H := hP
  have hD : va_D A [(h0, .inr (5, [.ref p1, .ref q12, .int 0, .int 0])), (q12, .inl (cI, 7, .inl (fun _ => 0)))] := hD
  refine lv_aload_n hx hb dX5_init_17 rfl (lv_at hl 0 rfl) ?_
  refine lv_iconst (v := 0) hx hb dX5_init_18 (by decide) ?_
  refine va_put (D := D) (ci := 5) (v := .int 0) (ty := .int) (C := RX5) (T := TX5) (N := 4) hx hb hU inX5 tyX5 tyX5_ok nmX5 hown hK hP hD hS 0 rfl rfl 2 (by decide) (hU (.fieldLink RX5 19 "BillWatch$Seasons" "expected" "I") (mU1 74 rfl rfl)) (fun _ h9 => h9) rfl (by decide +kernel) rfl rfl (Nat.le_of_ble_eq_true rfl) dX5_init_19 (fun H locs hP hD hS => ?_)
  have hP : va_P D vwCl [(h0, .inr (5, [.ref p1, .ref q12, .int 0, .int 0])), (q12, .inl (cI, 7, .inl (fun _ => 0)))] H := hP
  have hD : va_D A [(h0, .inr (5, [.ref p1, .ref q12, .int 0, .int 0])), (q12, .inl (cI, 7, .inl (fun _ => 0)))] := hD
  refine lv_aload_n hx hb dX5_init_22 rfl (lv_at hl 0 rfl) ?_
  refine lv_iconst (v := 0) hx hb dX5_init_23 (by decide) ?_
  refine va_put (D := D) (ci := 5) (v := .int 0) (ty := .int) (C := RX5) (T := TX5) (N := 4) hx hb hU inX5 tyX5 tyX5_ok nmX5 hown hK hP hD hS 0 rfl rfl 3 (by decide) (hU (.fieldLink RX5 23 "BillWatch$Seasons" "spread" "I") (mU1 75 rfl rfl)) (fun _ h9 => h9) rfl (by decide +kernel) rfl rfl (Nat.le_of_ble_eq_true rfl) dX5_init_24 (fun H locs hP hD hS => ?_)
  have hP : va_P D vwCl [(h0, .inr (5, [.ref p1, .ref q12, .int 0, .int 0])), (q12, .inl (cI, 7, .inl (fun _ => 0)))] H := hP
  have hD : va_D A [(h0, .inr (5, [.ref p1, .ref q12, .int 0, .int 0])), (q12, .inl (cI, 7, .inl (fun _ => 0)))] := hD
  have hP9 := va_P_of hP (is := [0, 1]) (w := [(h0, .inr (5, [.ref p1, .ref q12, .int 0, .int 0])), (q12, .inl (cI, 7, .inl (fun _ => 0)))]) rfl
  have hD9 := hD.sub (ws' := [(h0, .inr (5, [.ref p1, .ref q12, .int 0, .int 0])), (q12, .inl (cI, 7, .inl (fun _ => 0)))]) [0, 1] (by decide) rfl
  refine W.widen (k := 1) (n := 7) (Nat.le_of_ble_eq_true rfl) (Nat.le_of_ble_eq_true rfl) ?_
  exact W.vret hx hb hr (fun t ht hW => ⟨⟨fun k => [q12].getD k 0, rfl, trivial, by rw [ht]; exact hP9, hD9⟩, hS.F ht⟩) hS.2.2 dX5_init_27 hlk
theorem calX7_init : Cal yX7_init cX7_init 2 none 1 := ⟨(mU1 89 rfl rfl), (mU1 5 rfl rfl), by decide +kernel⟩
set_option maxHeartbeats 4000000 in
set_option maxRecDepth 100000 in
theorem mX7_init (l : Launch) (D : va_G) (cI cZ : ClassId) (h0 p1 : Nat) : Mc l D cI cZ yX7_init cX7_init 2 1 20 1 7 [.ref h0, .ref p1] [(h0, .inr (7, [.null, .null]))] (fun u => [(h0, .inr (7, [.ref p1, .ref (u 0)])), ((u 0), .inl (cI, 7, .inl (fun _ => 0)))]) := by
  refine Mc.of (by decide) rfl (Nat.le_of_ble_eq_true rfl) (fun p e s m args below meth c A C hin hP hD hS ls hl => ?_)
  obtain ⟨hx, hb, hml, hown, hU, hr, hlk, hK, hA⟩ := id C
  have hl : lv_has ls 2 [(0, .ref h0), (1, .ref p1)] := hl
  refine lv_aload_n hx hb dX7_init_0 rfl (lv_at hl 0 rfl) ?_
  refine W.objInit hx hb hown (hU (.methodLink RX7 3 Lib.objectInit) (mU1 90 rfl rfl)) (hU (.instanceMethod Lib.objectInit) (mU1 19 rfl rfl)) (hU (.code Lib.objectInit ⟨#[0xb1]⟩ 1 none) (mU1 20 rfl rfl)) rfl (by rw [hml]; exact hl.1) rfl dX7_init_1 (Nat.le_of_ble_eq_true rfl) (Nat.le_of_ble_eq_true rfl) ?_
  refine W.eq (g2 := F0 m 4 ls []) rfl ?_
  refine lv_aload_n hx hb dX7_init_4 rfl (lv_at hl 0 rfl) ?_
  refine lv_aload_n hx hb dX7_init_5 rfl (lv_at hl 1 rfl) ?_
  refine va_putF (D := D) (ci := 7) (v := .ref p1) (ty := .object "BillWatch$Ledger") (C := RX7) (T := TX7) (N := 2) hx hb hU inX7 tyX7 tyX7_ok nmX7 hown hK hP hD hS 0 rfl rfl 0 (by decide) (hU (.fieldLink RX7 9 "BillWatch$Trend" "ledger" "LBillWatch$Ledger;") (mU1 91 rfl rfl)) (fun _ h9 => h9) rfl hin rfl (by decide +kernel) rfl rfl (Nat.le_of_ble_eq_true rfl) dX7_init_6 (fun H locs hP hD hS => ?_)
  have hP : va_P D vwCl [(h0, .inr (7, [.ref p1, .null]))] H := hP
  have hD : va_D A [(h0, .inr (7, [.ref p1, .null]))] := hD
  refine lv_aload_n hx hb dX7_init_9 rfl (lv_at hl 0 rfl) ?_
  refine lv_bipush (v := 7) hx hb dX7_init_10 (by decide) ?_
  refine c_newI (N := 7) C (mU1 40 rfl rfl) hP hD hS (by decide) (by decide) (by decide) (Nat.le_of_ble_eq_true rfl) (Nat.le_of_ble_eq_true rfl) dX7_init_12 (fun q12 H hP hD hS => ?_)
  have hP : va_P D vwCl [(h0, .inr (7, [.ref p1, .null])), (q12, .inl (cI, 7, .inl (fun _ => 0)))] H := hP
  have hD : va_D A [(h0, .inr (7, [.ref p1, .null])), (q12, .inl (cI, 7, .inl (fun _ => 0)))] := hD
  refine va_putF (D := D) (ci := 7) (v := .ref q12) (ty := .array .int) (C := RX7) (T := TX7) (N := 2) hx hb hU inX7 tyX7 tyX7_ok nmX7 hown hK hP hD hS 0 rfl rfl 1 (by decide) (hU (.fieldLink RX7 15 "BillWatch$Trend" "days" "[I") (mU1 92 rfl rfl)) (fun _ h9 => h9) rfl hin rfl (by decide +kernel) rfl rfl (Nat.le_of_ble_eq_true rfl) dX7_init_14 (fun H locs hP hD hS => ?_)
  have hP : va_P D vwCl [(h0, .inr (7, [.ref p1, .ref q12])), (q12, .inl (cI, 7, .inl (fun _ => 0)))] H := hP
  have hD : va_D A [(h0, .inr (7, [.ref p1, .ref q12])), (q12, .inl (cI, 7, .inl (fun _ => 0)))] := hD
  have hP9 := va_P_of hP (is := [0, 1]) (w := [(h0, .inr (7, [.ref p1, .ref q12])), (q12, .inl (cI, 7, .inl (fun _ => 0)))]) rfl
  have hD9 := hD.sub (ws' := [(h0, .inr (7, [.ref p1, .ref q12])), (q12, .inl (cI, 7, .inl (fun _ => 0)))]) [0, 1] (by decide) rfl
  refine W.widen (k := 1) (n := 7) (Nat.le_of_ble_eq_true rfl) (Nat.le_of_ble_eq_true rfl) ?_
  exact W.vret hx hb hr (fun t ht hW => ⟨⟨fun k => [q12].getD k 0, rfl, trivial, by rw [ht]; exact hP9, hD9⟩, hS.F ht⟩) hS.2.2 dX7_init_17 hlk
theorem calX2_init : Cal yX2_init cX2_init 1 none 0 := ⟨(mU1 102 rfl rfl), (mU1 6 rfl rfl), by decide +kernel⟩
set_option maxHeartbeats 4000000 in
set_option maxRecDepth 100000 in
theorem mX2_init (l : Launch) (D : va_G) (cI cZ : ClassId) (h0 : Nat) : Mc l D cI cZ yX2_init cX2_init 1 1 20 5 500 [.ref h0] [(h0, .inr (2, [.null, .null, .null, .null, .null, .int 0]))] (fun u => [(h0, .inr (2, [.ref (u 0), .ref (u 1), .ref (u 2), .ref (u 3), .ref (u 4), .int 0])), ((u 0), .inl (cI, 100, .inl (fun _ => 0))), ((u 1), .inl (cI, 100, .inl (fun _ => 0))), ((u 2), .inl (cI, 100, .inl (fun _ => 0))), ((u 3), .inl (cI, 100, .inl (fun _ => 0))), ((u 4), .inl (cZ, 100, .inl (fun _ => 0)))]) := by
  refine Mc.of (by decide) rfl (Nat.le_of_ble_eq_true rfl) (fun p e s m args below meth c A C hin hP hD hS ls hl => ?_)
  obtain ⟨hx, hb, hml, hown, hU, hr, hlk, hK, hA⟩ := id C
  have hl : lv_has ls 1 [(0, .ref h0)] := hl
  refine lv_aload_n hx hb dX2_init_0 rfl (lv_at hl 0 rfl) ?_
  refine W.objInit hx hb hown (hU (.methodLink RX2 3 Lib.objectInit) (mU1 103 rfl rfl)) (hU (.instanceMethod Lib.objectInit) (mU1 19 rfl rfl)) (hU (.code Lib.objectInit ⟨#[0xb1]⟩ 1 none) (mU1 20 rfl rfl)) rfl (by rw [hml]; exact hl.1) rfl dX2_init_1 (Nat.le_of_ble_eq_true rfl) (Nat.le_of_ble_eq_true rfl) ?_
  refine W.eq (g2 := F0 m 4 ls []) rfl ?_
  refine lv_aload_n hx hb dX2_init_4 rfl (lv_at hl 0 rfl) ?_
  refine lv_bipush (v := 100) hx hb dX2_init_5 (by decide) ?_
  refine c_newI (N := 100) C (mU1 40 rfl rfl) hP hD hS (by decide) (by decide) (by decide) (Nat.le_of_ble_eq_true rfl) (Nat.le_of_ble_eq_true rfl) dX2_init_7 (fun q7 H hP hD hS => ?_)
  have hP : va_P D vwCl [(h0, .inr (2, [.null, .null, .null, .null, .null, .int 0])), (q7, .inl (cI, 100, .inl (fun _ => 0)))] H := hP
  have hD : va_D A [(h0, .inr (2, [.null, .null, .null, .null, .null, .int 0])), (q7, .inl (cI, 100, .inl (fun _ => 0)))] := hD
  refine va_putF (D := D) (ci := 2) (v := .ref q7) (ty := .array .int) (C := RX2) (T := TX2) (N := 6) hx hb hU inX2 tyX2 tyX2_ok nmX2 hown hK hP hD hS 0 rfl rfl 0 (by decide) (hU (.fieldLink RX2 9 "BillWatch$Cries" "service" "[I") (mU1 104 rfl rfl)) (fun _ h9 => h9) rfl hin rfl (by decide +kernel) rfl rfl (Nat.le_of_ble_eq_true rfl) dX2_init_9 (fun H locs hP hD hS => ?_)
  have hP : va_P D vwCl [(h0, .inr (2, [.ref q7, .null, .null, .null, .null, .int 0])), (q7, .inl (cI, 100, .inl (fun _ => 0)))] H := hP
  have hD : va_D A [(h0, .inr (2, [.ref q7, .null, .null, .null, .null, .int 0])), (q7, .inl (cI, 100, .inl (fun _ => 0)))] := hD
  refine lv_aload_n hx hb dX2_init_12 rfl (lv_at hl 0 rfl) ?_
  refine lv_bipush (v := 100) hx hb dX2_init_13 (by decide) ?_
  refine c_newI (N := 100) C (mU1 40 rfl rfl) hP hD hS (by decide) (by decide) (by decide) (Nat.le_of_ble_eq_true rfl) (Nat.le_of_ble_eq_true rfl) dX2_init_15 (fun q15 H hP hD hS => ?_)
  have hP : va_P D vwCl [(h0, .inr (2, [.ref q7, .null, .null, .null, .null, .int 0])), (q7, .inl (cI, 100, .inl (fun _ => 0))), (q15, .inl (cI, 100, .inl (fun _ => 0)))] H := hP
  have hD : va_D A [(h0, .inr (2, [.ref q7, .null, .null, .null, .null, .int 0])), (q7, .inl (cI, 100, .inl (fun _ => 0))), (q15, .inl (cI, 100, .inl (fun _ => 0)))] := hD
  refine va_putF (D := D) (ci := 2) (v := .ref q15) (ty := .array .int) (C := RX2) (T := TX2) (N := 6) hx hb hU inX2 tyX2 tyX2_ok nmX2 hown hK hP hD hS 0 rfl rfl 1 (by decide) (hU (.fieldLink RX2 15 "BillWatch$Cries" "cause" "[I") (mU1 105 rfl rfl)) (fun _ h9 => h9) rfl hin rfl (by decide +kernel) rfl rfl (Nat.le_of_ble_eq_true rfl) dX2_init_17 (fun H locs hP hD hS => ?_)
  have hP : va_P D vwCl [(h0, .inr (2, [.ref q7, .ref q15, .null, .null, .null, .int 0])), (q7, .inl (cI, 100, .inl (fun _ => 0))), (q15, .inl (cI, 100, .inl (fun _ => 0)))] H := hP
  have hD : va_D A [(h0, .inr (2, [.ref q7, .ref q15, .null, .null, .null, .int 0])), (q7, .inl (cI, 100, .inl (fun _ => 0))), (q15, .inl (cI, 100, .inl (fun _ => 0)))] := hD
  refine lv_aload_n hx hb dX2_init_20 rfl (lv_at hl 0 rfl) ?_
  refine lv_bipush (v := 100) hx hb dX2_init_21 (by decide) ?_
  refine c_newI (N := 100) C (mU1 40 rfl rfl) hP hD hS (by decide) (by decide) (by decide) (Nat.le_of_ble_eq_true rfl) (Nat.le_of_ble_eq_true rfl) dX2_init_23 (fun q23 H hP hD hS => ?_)
  have hP : va_P D vwCl [(h0, .inr (2, [.ref q7, .ref q15, .null, .null, .null, .int 0])), (q7, .inl (cI, 100, .inl (fun _ => 0))), (q15, .inl (cI, 100, .inl (fun _ => 0))), (q23, .inl (cI, 100, .inl (fun _ => 0)))] H := hP
  have hD : va_D A [(h0, .inr (2, [.ref q7, .ref q15, .null, .null, .null, .int 0])), (q7, .inl (cI, 100, .inl (fun _ => 0))), (q15, .inl (cI, 100, .inl (fun _ => 0))), (q23, .inl (cI, 100, .inl (fun _ => 0)))] := hD
  refine va_putF (D := D) (ci := 2) (v := .ref q23) (ty := .array .int) (C := RX2) (T := TX2) (N := 6) hx hb hU inX2 tyX2 tyX2_ok nmX2 hown hK hP hD hS 0 rfl rfl 2 (by decide) (hU (.fieldLink RX2 18 "BillWatch$Cries" "came" "[I") (mU1 106 rfl rfl)) (fun _ h9 => h9) rfl hin rfl (by decide +kernel) rfl rfl (Nat.le_of_ble_eq_true rfl) dX2_init_25 (fun H locs hP hD hS => ?_)
  have hP : va_P D vwCl [(h0, .inr (2, [.ref q7, .ref q15, .ref q23, .null, .null, .int 0])), (q7, .inl (cI, 100, .inl (fun _ => 0))), (q15, .inl (cI, 100, .inl (fun _ => 0))), (q23, .inl (cI, 100, .inl (fun _ => 0)))] H := hP
  have hD : va_D A [(h0, .inr (2, [.ref q7, .ref q15, .ref q23, .null, .null, .int 0])), (q7, .inl (cI, 100, .inl (fun _ => 0))), (q15, .inl (cI, 100, .inl (fun _ => 0))), (q23, .inl (cI, 100, .inl (fun _ => 0)))] := hD
  refine lv_aload_n hx hb dX2_init_28 rfl (lv_at hl 0 rfl) ?_
  refine lv_bipush (v := 100) hx hb dX2_init_29 (by decide) ?_
  refine c_newI (N := 100) C (mU1 40 rfl rfl) hP hD hS (by decide) (by decide) (by decide) (Nat.le_of_ble_eq_true rfl) (Nat.le_of_ble_eq_true rfl) dX2_init_31 (fun q31 H hP hD hS => ?_)
  have hP : va_P D vwCl [(h0, .inr (2, [.ref q7, .ref q15, .ref q23, .null, .null, .int 0])), (q7, .inl (cI, 100, .inl (fun _ => 0))), (q15, .inl (cI, 100, .inl (fun _ => 0))), (q23, .inl (cI, 100, .inl (fun _ => 0))), (q31, .inl (cI, 100, .inl (fun _ => 0)))] H := hP
  have hD : va_D A [(h0, .inr (2, [.ref q7, .ref q15, .ref q23, .null, .null, .int 0])), (q7, .inl (cI, 100, .inl (fun _ => 0))), (q15, .inl (cI, 100, .inl (fun _ => 0))), (q23, .inl (cI, 100, .inl (fun _ => 0))), (q31, .inl (cI, 100, .inl (fun _ => 0)))] := hD
  refine va_putF (D := D) (ci := 2) (v := .ref q31) (ty := .array .int) (C := RX2) (T := TX2) (N := 6) hx hb hU inX2 tyX2 tyX2_ok nmX2 hown hK hP hD hS 0 rfl rfl 3 (by decide) (hU (.fieldLink RX2 21 "BillWatch$Cries" "last" "[I") (mU1 107 rfl rfl)) (fun _ h9 => h9) rfl hin rfl (by decide +kernel) rfl rfl (Nat.le_of_ble_eq_true rfl) dX2_init_33 (fun H locs hP hD hS => ?_)
  have hP : va_P D vwCl [(h0, .inr (2, [.ref q7, .ref q15, .ref q23, .ref q31, .null, .int 0])), (q7, .inl (cI, 100, .inl (fun _ => 0))), (q15, .inl (cI, 100, .inl (fun _ => 0))), (q23, .inl (cI, 100, .inl (fun _ => 0))), (q31, .inl (cI, 100, .inl (fun _ => 0)))] H := hP
  have hD : va_D A [(h0, .inr (2, [.ref q7, .ref q15, .ref q23, .ref q31, .null, .int 0])), (q7, .inl (cI, 100, .inl (fun _ => 0))), (q15, .inl (cI, 100, .inl (fun _ => 0))), (q23, .inl (cI, 100, .inl (fun _ => 0))), (q31, .inl (cI, 100, .inl (fun _ => 0)))] := hD
  refine lv_aload_n hx hb dX2_init_36 rfl (lv_at hl 0 rfl) ?_
  refine lv_bipush (v := 100) hx hb dX2_init_37 (by decide) ?_
  refine c_newZ (N := 100) C (mU1 123 rfl rfl) hP hD hS (by decide) (by decide) (by decide) (Nat.le_of_ble_eq_true rfl) (Nat.le_of_ble_eq_true rfl) dX2_init_39 (fun q39 H hP hD hS => ?_)
  have hP : va_P D vwCl [(h0, .inr (2, [.ref q7, .ref q15, .ref q23, .ref q31, .null, .int 0])), (q7, .inl (cI, 100, .inl (fun _ => 0))), (q15, .inl (cI, 100, .inl (fun _ => 0))), (q23, .inl (cI, 100, .inl (fun _ => 0))), (q31, .inl (cI, 100, .inl (fun _ => 0))), (q39, .inl (cZ, 100, .inl (fun _ => 0)))] H := hP
  have hD : va_D A [(h0, .inr (2, [.ref q7, .ref q15, .ref q23, .ref q31, .null, .int 0])), (q7, .inl (cI, 100, .inl (fun _ => 0))), (q15, .inl (cI, 100, .inl (fun _ => 0))), (q23, .inl (cI, 100, .inl (fun _ => 0))), (q31, .inl (cI, 100, .inl (fun _ => 0))), (q39, .inl (cZ, 100, .inl (fun _ => 0)))] := hD
  refine va_putF (D := D) (ci := 2) (v := .ref q39) (ty := .array .boolean) (C := RX2) (T := TX2) (N := 6) hx hb hU inX2 tyX2 tyX2_ok nmX2 hown hK hP hD hS 0 rfl rfl 4 (by decide) (hU (.fieldLink RX2 24 "BillWatch$Cries" "open" "[Z") (mU1 108 rfl rfl)) (fun _ h9 => h9) rfl hin rfl (by decide +kernel) rfl rfl (Nat.le_of_ble_eq_true rfl) dX2_init_41 (fun H locs hP hD hS => ?_)
  have hP : va_P D vwCl [(h0, .inr (2, [.ref q7, .ref q15, .ref q23, .ref q31, .ref q39, .int 0])), (q7, .inl (cI, 100, .inl (fun _ => 0))), (q15, .inl (cI, 100, .inl (fun _ => 0))), (q23, .inl (cI, 100, .inl (fun _ => 0))), (q31, .inl (cI, 100, .inl (fun _ => 0))), (q39, .inl (cZ, 100, .inl (fun _ => 0)))] H := hP
  have hD : va_D A [(h0, .inr (2, [.ref q7, .ref q15, .ref q23, .ref q31, .ref q39, .int 0])), (q7, .inl (cI, 100, .inl (fun _ => 0))), (q15, .inl (cI, 100, .inl (fun _ => 0))), (q23, .inl (cI, 100, .inl (fun _ => 0))), (q31, .inl (cI, 100, .inl (fun _ => 0))), (q39, .inl (cZ, 100, .inl (fun _ => 0)))] := hD
  refine lv_aload_n hx hb dX2_init_44 rfl (lv_at hl 0 rfl) ?_
  refine lv_iconst (v := 0) hx hb dX2_init_45 (by decide) ?_
  refine va_put (D := D) (ci := 2) (v := .int 0) (ty := .int) (C := RX2) (T := TX2) (N := 6) hx hb hU inX2 tyX2 tyX2_ok nmX2 hown hK hP hD hS 0 rfl rfl 5 (by decide) (hU (.fieldLink RX2 28 "BillWatch$Cries" "count" "I") (mU1 109 rfl rfl)) (fun _ h9 => h9) rfl (by decide +kernel) rfl rfl (Nat.le_of_ble_eq_true rfl) dX2_init_46 (fun H locs hP hD hS => ?_)
  have hP : va_P D vwCl [(h0, .inr (2, [.ref q7, .ref q15, .ref q23, .ref q31, .ref q39, .int 0])), (q7, .inl (cI, 100, .inl (fun _ => 0))), (q15, .inl (cI, 100, .inl (fun _ => 0))), (q23, .inl (cI, 100, .inl (fun _ => 0))), (q31, .inl (cI, 100, .inl (fun _ => 0))), (q39, .inl (cZ, 100, .inl (fun _ => 0)))] H := hP
  have hD : va_D A [(h0, .inr (2, [.ref q7, .ref q15, .ref q23, .ref q31, .ref q39, .int 0])), (q7, .inl (cI, 100, .inl (fun _ => 0))), (q15, .inl (cI, 100, .inl (fun _ => 0))), (q23, .inl (cI, 100, .inl (fun _ => 0))), (q31, .inl (cI, 100, .inl (fun _ => 0))), (q39, .inl (cZ, 100, .inl (fun _ => 0)))] := hD
  have hP9 := va_P_of hP (is := [0, 1, 2, 3, 4, 5]) (w := [(h0, .inr (2, [.ref q7, .ref q15, .ref q23, .ref q31, .ref q39, .int 0])), (q7, .inl (cI, 100, .inl (fun _ => 0))), (q15, .inl (cI, 100, .inl (fun _ => 0))), (q23, .inl (cI, 100, .inl (fun _ => 0))), (q31, .inl (cI, 100, .inl (fun _ => 0))), (q39, .inl (cZ, 100, .inl (fun _ => 0)))]) rfl
  have hD9 := hD.sub (ws' := [(h0, .inr (2, [.ref q7, .ref q15, .ref q23, .ref q31, .ref q39, .int 0])), (q7, .inl (cI, 100, .inl (fun _ => 0))), (q15, .inl (cI, 100, .inl (fun _ => 0))), (q23, .inl (cI, 100, .inl (fun _ => 0))), (q31, .inl (cI, 100, .inl (fun _ => 0))), (q39, .inl (cZ, 100, .inl (fun _ => 0)))]) [0, 1, 2, 3, 4, 5] (by decide) rfl
  refine W.widen (k := 5) (n := 500) (Nat.le_of_ble_eq_true rfl) (Nat.le_of_ble_eq_true rfl) ?_
  exact W.vret hx hb hr (fun t ht hW => ⟨⟨fun k => [q7, q15, q23, q31, q39].getD k 0, rfl, trivial, by rw [ht]; exact hP9, hD9⟩, hS.F ht⟩) hS.2.2 dX2_init_49 hlk
theorem calX0_init : Cal yX0_init cX0_init 3 none 2 := ⟨(mU1 138 rfl rfl), (mU1 8 rfl rfl), by decide +kernel⟩
set_option maxHeartbeats 4000000 in
set_option maxRecDepth 100000 in
theorem mX0_init (l : Launch) (D : va_G) (cI cZ : ClassId) (h0 p1 p2 : Nat) : Mc l D cI cZ yX0_init cX0_init 3 1 20 0 0 [.ref h0, .ref p1, .ref p2] [(h0, .inr (0, [.null, .null]))] (fun u => [(h0, .inr (0, [.ref p1, .ref p2]))]) := by
  refine Mc.of (by decide) rfl (Nat.le_of_ble_eq_true rfl) (fun p e s m args below meth c A C hin hP hD hS ls hl => ?_)
  obtain ⟨hx, hb, hml, hown, hU, hr, hlk, hK, hA⟩ := id C
  have hl : lv_has ls 3 [(0, .ref h0), (1, .ref p1), (2, .ref p2)] := hl
  refine lv_aload_n hx hb dX0_init_0 rfl (lv_at hl 0 rfl) ?_
  refine W.objInit hx hb hown (hU (.methodLink RX0 3 Lib.objectInit) (mU1 139 rfl rfl)) (hU (.instanceMethod Lib.objectInit) (mU1 19 rfl rfl)) (hU (.code Lib.objectInit ⟨#[0xb1]⟩ 1 none) (mU1 20 rfl rfl)) rfl (by rw [hml]; exact hl.1) rfl dX0_init_1 (Nat.le_of_ble_eq_true rfl) (Nat.le_of_ble_eq_true rfl) ?_
  refine W.eq (g2 := F0 m 4 ls []) rfl ?_
  refine lv_aload_n hx hb dX0_init_4 rfl (lv_at hl 0 rfl) ?_
  refine lv_aload_n hx hb dX0_init_5 rfl (lv_at hl 1 rfl) ?_
  refine va_putF (D := D) (ci := 0) (v := .ref p1) (ty := .object "BillWatch$Ledger") (C := RX0) (T := TX0) (N := 2) hx hb hU inX0 tyX0 tyX0_ok nmX0 hown hK hP hD hS 0 rfl rfl 0 (by decide) (hU (.fieldLink RX0 9 "BillWatch$Bills" "ledger" "LBillWatch$Ledger;") (mU1 140 rfl rfl)) (fun _ h9 => h9) rfl hin rfl (by decide +kernel) rfl rfl (Nat.le_of_ble_eq_true rfl) dX0_init_6 (fun H locs hP hD hS => ?_)
  have hP : va_P D vwCl [(h0, .inr (0, [.ref p1, .null]))] H := hP
  have hD : va_D A [(h0, .inr (0, [.ref p1, .null]))] := hD
  refine lv_aload_n hx hb dX0_init_9 rfl (lv_at hl 0 rfl) ?_
  refine lv_aload_n hx hb dX0_init_10 rfl (lv_at hl 2 rfl) ?_
  refine va_putF (D := D) (ci := 0) (v := .ref p2) (ty := .object "BillWatch$Shares") (C := RX0) (T := TX0) (N := 2) hx hb hU inX0 tyX0 tyX0_ok nmX0 hown hK hP hD hS 0 rfl rfl 1 (by decide) (hU (.fieldLink RX0 15 "BillWatch$Bills" "shares" "LBillWatch$Shares;") (mU1 141 rfl rfl)) (fun _ h9 => h9) rfl hin rfl (by decide +kernel) rfl rfl (Nat.le_of_ble_eq_true rfl) dX0_init_11 (fun H locs hP hD hS => ?_)
  have hP : va_P D vwCl [(h0, .inr (0, [.ref p1, .ref p2]))] H := hP
  have hD : va_D A [(h0, .inr (0, [.ref p1, .ref p2]))] := hD
  have hP9 := va_P_of hP (is := [0]) (w := [(h0, .inr (0, [.ref p1, .ref p2]))]) rfl
  have hD9 := hD.sub (ws' := [(h0, .inr (0, [.ref p1, .ref p2]))]) [0] (by decide) rfl
  refine W.widen (k := 0) (n := 0) (Nat.le_of_ble_eq_true rfl) (Nat.le_of_ble_eq_true rfl) ?_
  exact W.vret hx hb hr (fun t ht hW => ⟨⟨fun _ => 0, rfl, trivial, by rw [ht]; exact hP9, hD9⟩, hS.F ht⟩) hS.2.2 dX0_init_14 hlk
theorem calX1_init : Cal yX1_init cX1_init 3 none 2 := ⟨(mU1 151 rfl rfl), (mU1 9 rfl rfl), by decide +kernel⟩
set_option maxHeartbeats 4000000 in
set_option maxRecDepth 100000 in
theorem mX1_init (l : Launch) (D : va_G) (cI cZ : ClassId) (h0 p1 p2 : Nat) : Mc l D cI cZ yX1_init cX1_init 3 1 20 3 12 [.ref h0, .ref p1, .ref p2] [(h0, .inr (1, [.null, .null, .null, .null, .null]))] (fun u => [(h0, .inr (1, [.ref p1, .ref p2, .ref (u 0), .ref (u 1), .ref (u 2)])), ((u 0), .inl (cI, 4, .inl (fun _ => 0))), ((u 1), .inl (cI, 4, .inl (fun _ => 0))), ((u 2), .inl (cI, 4, .inl (fun _ => 0)))]) := by
  refine Mc.of (by decide) rfl (Nat.le_of_ble_eq_true rfl) (fun p e s m args below meth c A C hin hP hD hS ls hl => ?_)
  obtain ⟨hx, hb, hml, hown, hU, hr, hlk, hK, hA⟩ := id C
  have hl : lv_has ls 3 [(0, .ref h0), (1, .ref p1), (2, .ref p2)] := hl
  refine lv_aload_n hx hb dX1_init_0 rfl (lv_at hl 0 rfl) ?_
  refine W.objInit hx hb hown (hU (.methodLink RX1 3 Lib.objectInit) (mU1 152 rfl rfl)) (hU (.instanceMethod Lib.objectInit) (mU1 19 rfl rfl)) (hU (.code Lib.objectInit ⟨#[0xb1]⟩ 1 none) (mU1 20 rfl rfl)) rfl (by rw [hml]; exact hl.1) rfl dX1_init_1 (Nat.le_of_ble_eq_true rfl) (Nat.le_of_ble_eq_true rfl) ?_
  refine W.eq (g2 := F0 m 4 ls []) rfl ?_
  refine lv_aload_n hx hb dX1_init_4 rfl (lv_at hl 0 rfl) ?_
  refine lv_aload_n hx hb dX1_init_5 rfl (lv_at hl 1 rfl) ?_
  refine va_putF (D := D) (ci := 1) (v := .ref p1) (ty := .object "BillWatch$Ledger") (C := RX1) (T := TX1) (N := 5) hx hb hU inX1 tyX1 tyX1_ok nmX1 hown hK hP hD hS 0 rfl rfl 0 (by decide) (hU (.fieldLink RX1 9 "BillWatch$Budgets" "ledger" "LBillWatch$Ledger;") (mU1 153 rfl rfl)) (fun _ h9 => h9) rfl hin rfl (by decide +kernel) rfl rfl (Nat.le_of_ble_eq_true rfl) dX1_init_6 (fun H locs hP hD hS => ?_)
  have hP : va_P D vwCl [(h0, .inr (1, [.ref p1, .null, .null, .null, .null]))] H := hP
  have hD : va_D A [(h0, .inr (1, [.ref p1, .null, .null, .null, .null]))] := hD
  refine lv_aload_n hx hb dX1_init_9 rfl (lv_at hl 0 rfl) ?_
  refine lv_aload_n hx hb dX1_init_10 rfl (lv_at hl 2 rfl) ?_
  refine va_putF (D := D) (ci := 1) (v := .ref p2) (ty := .object "BillWatch$Bills") (C := RX1) (T := TX1) (N := 5) hx hb hU inX1 tyX1 tyX1_ok nmX1 hown hK hP hD hS 0 rfl rfl 1 (by decide) (hU (.fieldLink RX1 15 "BillWatch$Budgets" "bills" "LBillWatch$Bills;") (mU1 154 rfl rfl)) (fun _ h9 => h9) rfl hin rfl (by decide +kernel) rfl rfl (Nat.le_of_ble_eq_true rfl) dX1_init_11 (fun H locs hP hD hS => ?_)
  have hP : va_P D vwCl [(h0, .inr (1, [.ref p1, .ref p2, .null, .null, .null]))] H := hP
  have hD : va_D A [(h0, .inr (1, [.ref p1, .ref p2, .null, .null, .null]))] := hD
  refine lv_aload_n hx hb dX1_init_14 rfl (lv_at hl 0 rfl) ?_
  refine lv_iconst (v := 4) hx hb dX1_init_15 (by decide) ?_
  refine c_newI (N := 4) C (mU1 40 rfl rfl) hP hD hS (by decide) (by decide) (by decide) (Nat.le_of_ble_eq_true rfl) (Nat.le_of_ble_eq_true rfl) dX1_init_16 (fun q16 H hP hD hS => ?_)
  have hP : va_P D vwCl [(h0, .inr (1, [.ref p1, .ref p2, .null, .null, .null])), (q16, .inl (cI, 4, .inl (fun _ => 0)))] H := hP
  have hD : va_D A [(h0, .inr (1, [.ref p1, .ref p2, .null, .null, .null])), (q16, .inl (cI, 4, .inl (fun _ => 0)))] := hD
  refine va_putF (D := D) (ci := 1) (v := .ref q16) (ty := .array .int) (C := RX1) (T := TX1) (N := 5) hx hb hU inX1 tyX1 tyX1_ok nmX1 hown hK hP hD hS 0 rfl rfl 2 (by decide) (hU (.fieldLink RX1 19 "BillWatch$Budgets" "sum" "[I") (mU1 155 rfl rfl)) (fun _ h9 => h9) rfl hin rfl (by decide +kernel) rfl rfl (Nat.le_of_ble_eq_true rfl) dX1_init_18 (fun H locs hP hD hS => ?_)
  have hP : va_P D vwCl [(h0, .inr (1, [.ref p1, .ref p2, .ref q16, .null, .null])), (q16, .inl (cI, 4, .inl (fun _ => 0)))] H := hP
  have hD : va_D A [(h0, .inr (1, [.ref p1, .ref p2, .ref q16, .null, .null])), (q16, .inl (cI, 4, .inl (fun _ => 0)))] := hD
  refine lv_aload_n hx hb dX1_init_21 rfl (lv_at hl 0 rfl) ?_
  refine lv_iconst (v := 4) hx hb dX1_init_22 (by decide) ?_
  refine c_newI (N := 4) C (mU1 40 rfl rfl) hP hD hS (by decide) (by decide) (by decide) (Nat.le_of_ble_eq_true rfl) (Nat.le_of_ble_eq_true rfl) dX1_init_23 (fun q23 H hP hD hS => ?_)
  have hP : va_P D vwCl [(h0, .inr (1, [.ref p1, .ref p2, .ref q16, .null, .null])), (q16, .inl (cI, 4, .inl (fun _ => 0))), (q23, .inl (cI, 4, .inl (fun _ => 0)))] H := hP
  have hD : va_D A [(h0, .inr (1, [.ref p1, .ref p2, .ref q16, .null, .null])), (q16, .inl (cI, 4, .inl (fun _ => 0))), (q23, .inl (cI, 4, .inl (fun _ => 0)))] := hD
  refine va_putF (D := D) (ci := 1) (v := .ref q23) (ty := .array .int) (C := RX1) (T := TX1) (N := 5) hx hb hU inX1 tyX1 tyX1_ok nmX1 hown hK hP hD hS 0 rfl rfl 3 (by decide) (hU (.fieldLink RX1 23 "BillWatch$Budgets" "from" "[I") (mU1 156 rfl rfl)) (fun _ h9 => h9) rfl hin rfl (by decide +kernel) rfl rfl (Nat.le_of_ble_eq_true rfl) dX1_init_25 (fun H locs hP hD hS => ?_)
  have hP : va_P D vwCl [(h0, .inr (1, [.ref p1, .ref p2, .ref q16, .ref q23, .null])), (q16, .inl (cI, 4, .inl (fun _ => 0))), (q23, .inl (cI, 4, .inl (fun _ => 0)))] H := hP
  have hD : va_D A [(h0, .inr (1, [.ref p1, .ref p2, .ref q16, .ref q23, .null])), (q16, .inl (cI, 4, .inl (fun _ => 0))), (q23, .inl (cI, 4, .inl (fun _ => 0)))] := hD
  refine lv_aload_n hx hb dX1_init_28 rfl (lv_at hl 0 rfl) ?_
  refine lv_iconst (v := 4) hx hb dX1_init_29 (by decide) ?_
  refine c_newI (N := 4) C (mU1 40 rfl rfl) hP hD hS (by decide) (by decide) (by decide) (Nat.le_of_ble_eq_true rfl) (Nat.le_of_ble_eq_true rfl) dX1_init_30 (fun q30 H hP hD hS => ?_)
  have hP : va_P D vwCl [(h0, .inr (1, [.ref p1, .ref p2, .ref q16, .ref q23, .null])), (q16, .inl (cI, 4, .inl (fun _ => 0))), (q23, .inl (cI, 4, .inl (fun _ => 0))), (q30, .inl (cI, 4, .inl (fun _ => 0)))] H := hP
  have hD : va_D A [(h0, .inr (1, [.ref p1, .ref p2, .ref q16, .ref q23, .null])), (q16, .inl (cI, 4, .inl (fun _ => 0))), (q23, .inl (cI, 4, .inl (fun _ => 0))), (q30, .inl (cI, 4, .inl (fun _ => 0)))] := hD
  refine va_putF (D := D) (ci := 1) (v := .ref q30) (ty := .array .int) (C := RX1) (T := TX1) (N := 5) hx hb hU inX1 tyX1 tyX1_ok nmX1 hown hK hP hD hS 0 rfl rfl 4 (by decide) (hU (.fieldLink RX1 26 "BillWatch$Budgets" "to" "[I") (mU1 157 rfl rfl)) (fun _ h9 => h9) rfl hin rfl (by decide +kernel) rfl rfl (Nat.le_of_ble_eq_true rfl) dX1_init_32 (fun H locs hP hD hS => ?_)
  have hP : va_P D vwCl [(h0, .inr (1, [.ref p1, .ref p2, .ref q16, .ref q23, .ref q30])), (q16, .inl (cI, 4, .inl (fun _ => 0))), (q23, .inl (cI, 4, .inl (fun _ => 0))), (q30, .inl (cI, 4, .inl (fun _ => 0)))] H := hP
  have hD : va_D A [(h0, .inr (1, [.ref p1, .ref p2, .ref q16, .ref q23, .ref q30])), (q16, .inl (cI, 4, .inl (fun _ => 0))), (q23, .inl (cI, 4, .inl (fun _ => 0))), (q30, .inl (cI, 4, .inl (fun _ => 0)))] := hD
  have hP9 := va_P_of hP (is := [0, 1, 2, 3]) (w := [(h0, .inr (1, [.ref p1, .ref p2, .ref q16, .ref q23, .ref q30])), (q16, .inl (cI, 4, .inl (fun _ => 0))), (q23, .inl (cI, 4, .inl (fun _ => 0))), (q30, .inl (cI, 4, .inl (fun _ => 0)))]) rfl
  have hD9 := hD.sub (ws' := [(h0, .inr (1, [.ref p1, .ref p2, .ref q16, .ref q23, .ref q30])), (q16, .inl (cI, 4, .inl (fun _ => 0))), (q23, .inl (cI, 4, .inl (fun _ => 0))), (q30, .inl (cI, 4, .inl (fun _ => 0)))]) [0, 1, 2, 3] (by decide) rfl
  refine W.widen (k := 3) (n := 12) (Nat.le_of_ble_eq_true rfl) (Nat.le_of_ble_eq_true rfl) ?_
  exact W.vret hx hb hr (fun t ht hW => ⟨⟨fun k => [q16, q23, q30].getD k 0, rfl, trivial, by rw [ht]; exact hP9, hD9⟩, hS.F ht⟩) hS.2.2 dX1_init_35 hlk
theorem calX6_init : Cal yX6_init cX6_init 2 none 0 := ⟨(mU1 128 rfl rfl), (mU1 7 rfl rfl), by decide +kernel⟩
set_option maxHeartbeats 4000000 in
set_option maxRecDepth 100000 in
theorem shares_loop {p : Program} {l : Launch} {e : Env} {s : State} {m : MethodId} {args : Array Value} {below : List Frame} {meth : Method} {c : Code} {D : va_G} {cI cZ : ClassId} {A : Nat → Prop} {h0 q : Nat} (C : Cx p s m args meth c cX6_init 2 RX6 none D cI cZ A) :
    ∀ (n i : Nat) (x1 : Int32), i ≤ 6 → 7 ≤ i + n → x1 = nI i → ∀ (H : Heap) (locs : List Loc), va_P D vwCl [(h0, .inr (6, [.ref q])), (q, .inl (cI, 24, .inl (shr i)))] H → va_D A [(h0, .inr (6, [.ref q])), (q, .inl (cI, 24, .inl (shr i)))] → va_S A s.heap H locs → ∀ (ls : Array Slot), lv_has ls 2 [(0, .ref h0), (1, .int x1)] →
      W p l e { frames := 1, cells := 1, slots := 24, locals := 20 } s m args below meth c H locs 1 24 (MQ below (va_Qv (fun (_ : Nat → Nat) => True) (fun u t => va_P D vwCl [(h0, .inr (6, [.ref (u 0)])), (u 0, .inl (cI, 24, .inl (shr 6)))] t.heap ∧ va_D A [(h0, .inr (6, [.ref (u 0)])), (u 0, .inl (cI, 24, .inl (shr 6)))]) A) args s 1 24 A) (F0 m 14 ls []) := by
  obtain ⟨hx, hb, hml, hown, hU, hr, hlk, hK, hA⟩ := id C
  intro n
  induction n with
  | zero =>
    intro i x1 h1 h2
    exact absurd h2 (by omega)
  | succ n ih =>
    intro i x1 hi hn ex H locs hP hD hS ls hl
    subst ex
    refine lv_iload_n hx hb dX6_init_14 rfl (lv_at hl 1 rfl) ?_
    refine lv_bipush (v := 6) hx hb dX6_init_15 (by decide) ?_
    refine lv_icmp_ge (tgt := 35) hx hb dX6_init_17 (by decide) (fun c_17 => ?_) (fun c_17 => ?_)
    · have h6 : i = 6 := by
        rcases Nat.lt_or_ge i 6 with h | h
        · exact absurd c_17 (nI_ge h (by decide))
        · omega
      subst h6
      exact W.vret hx hb hr (fun t ht hW => ⟨⟨fun _ => q, rfl, trivial, by rw [ht]; exact hP, hD⟩, hS.F ht⟩) hS.2.2 dX6_init_35 hlk
    · have h6 : i < 6 := by
        rcases Nat.lt_or_ge i 6 with h | h
        · exact h
        · exact absurd (nI_le h (by omega)) c_17
      have e4 : nI i * 4 = nI (4 * i) := by rw [show (4 : Int32) = nI 4 from rfl, pk_mul, Nat.mul_comm]
      have hin : vp_in (nI i * 4) 24 := by rw [e4]; exact vp_in_nI (by omega) (by decide)
      refine lv_aload_n hx hb dX6_init_20 rfl (lv_at hl 0 rfl) ?_
      refine va_get (D := D) (ci := 6) (v := .ref q) (C := RX6) (T := TX6) (N := 1) hx hb hU inX6 hown hK hP 0 rfl rfl 0 (by decide) (hU (.fieldLink RX6 9 "BillWatch$Shares" "row" "[I") (mU1 130 rfl rfl)) (fun _ h9 => h9) rfl dX6_init_21 ?_
      refine lv_iload_n hx hb dX6_init_24 rfl (lv_at hl 1 rfl) ?_
      refine lv_iconst (v := 4) hx hb dX6_init_25 (by decide) ?_
      refine lv_imul hx hb dX6_init_26 ?_
      refine lv_iconst (v := 1) hx hb dX6_init_27 (by decide) ?_
      refine va_iast hx hb hK hP hD hS 1 0 (f := shr i) (n := 24) rfl rfl hin dX6_init_28 (fun H locs hP hD hS => ?_)
      have e5 : upd (shr i) (nI i * 4).toNatClampNeg 1 = shr (i + 1) := by rw [e4, nI_clamp (by omega)]; exact shr_s i
      rw [e5] at hP hD
      refine lv_iinc (v := nI i + 1) (lv' := [(1, .int (nI i + 1)), (0, .ref h0)]) hx hb dX6_init_29 hl (k := 1) rfl rfl (by decide) rfl (fun ls hl => ?_)
      refine lv_goto (tgt := 14) hx hb dX6_init_32 (by decide) ?_
      exact ih (i + 1) (nI i + 1) (by omega) (by omega) (nI_1 i) H locs hP hD hS ls (lv_sub hl [1, 0] rfl)
set_option maxHeartbeats 4000000 in
set_option maxRecDepth 100000 in
theorem mX6_init (l : Launch) (D : va_G) (cI cZ : ClassId) (h0 : Nat) : Mc l D cI cZ yX6_init cX6_init 2 1 20 1 24 [.ref h0] [(h0, .inr (6, [.null]))] (fun u => [(h0, .inr (6, [.ref (u 0)])), (u 0, .inl (cI, 24, .inl (shr 6)))]) := by
  refine Mc.of (by decide) rfl (Nat.le_of_ble_eq_true rfl) (fun p e s m args below meth c A C hin hP hD hS ls hl => ?_)
  obtain ⟨hx, hb, hml, hown, hU, hr, hlk, hK, hA⟩ := id C
  have hl : lv_has ls 2 [(0, .ref h0)] := hl
  refine lv_aload_n hx hb dX6_init_0 rfl (lv_at hl 0 rfl) ?_
  refine W.objInit hx hb hown (hU (.methodLink RX6 3 Lib.objectInit) (mU1 129 rfl rfl)) (hU (.instanceMethod Lib.objectInit) (mU1 19 rfl rfl)) (hU (.code Lib.objectInit ⟨#[0xb1]⟩ 1 none) (mU1 20 rfl rfl)) rfl (by rw [hml]; exact hl.1) rfl dX6_init_1 (Nat.le_of_ble_eq_true rfl) (Nat.le_of_ble_eq_true rfl) ?_
  refine W.eq (g2 := F0 m 4 ls []) rfl ?_
  refine lv_aload_n hx hb dX6_init_4 rfl (lv_at hl 0 rfl) ?_
  refine lv_bipush (v := 24) hx hb dX6_init_5 (by decide) ?_
  refine c_newI (N := 24) C (mU1 40 rfl rfl) hP hD hS (by decide) (by decide) (by decide) (Nat.le_of_ble_eq_true rfl) (Nat.le_of_ble_eq_true rfl) dX6_init_7 (fun q7 H hP hD hS => ?_)
  have hP : va_P D vwCl [(h0, .inr (6, [.null])), (q7, .inl (cI, 24, .inl (fun _ => 0)))] H := hP
  have hD : va_D A [(h0, .inr (6, [.null])), (q7, .inl (cI, 24, .inl (fun _ => 0)))] := hD
  refine va_putF (D := D) (ci := 6) (v := .ref q7) (ty := .array .int) (C := RX6) (T := TX6) (N := 1) hx hb hU inX6 tyX6 tyX6_ok nmX6 hown hK hP hD hS 0 rfl rfl 0 (by decide) (hU (.fieldLink RX6 9 "BillWatch$Shares" "row" "[I") (mU1 130 rfl rfl)) (fun _ h9 => h9) rfl hin rfl (by decide +kernel) rfl rfl (Nat.le_of_ble_eq_true rfl) dX6_init_9 (fun H locs hP hD hS => ?_)
  have hP : va_P D vwCl [(h0, .inr (6, [.ref q7])), (q7, .inl (cI, 24, .inl (fun _ => 0)))] H := hP
  have hD : va_D A [(h0, .inr (6, [.ref q7])), (q7, .inl (cI, 24, .inl (fun _ => 0)))] := hD
  rw [← shr_0] at hP hD
  refine lv_iconst (v := 0) hx hb dX6_init_12 (by decide) ?_
  refine lv_istore_n (lv' := [(1, .int 0), (0, .ref h0)]) hx hb dX6_init_13 rfl hl (by decide) rfl (fun ls hl => ?_)
  exact shares_loop C 7 0 0 (by omega) (by omega) rfl H locs hP hD hS ls (lv_sub hl [1, 0] rfl)

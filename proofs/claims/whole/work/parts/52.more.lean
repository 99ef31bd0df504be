theorem gd2 {n N : Nat} (h : n < N) (hN : N < 2 ^ 31) : ¬ (nI n < 0 ∨ N ≤ n) := fun e => e.elim (nI_pos (by omega)) (by omega)
theorem i10 {α : Type} (a b : α) : (if (1 : Int32) = 0 then a else b) = b := if_neg (by decide)
theorem i00 {α : Type} (a b : α) : (if (0 : Int32) = 0 then a else b) = a := if_pos rfl
theorem cancel_np (a p : Int32) : a + p + -p = a := by grind
theorem inx (x : Int32) (n : Nat) (hn : n ≤ 100) : (∃ i, i < n ∧ x = nI i ∧ ¬ x < 0 ∧ ¬ nI n ≤ x ∧ ¬ nI n - 1 < x) ∨ x < 0 ∨ (¬ x < 0 ∧ nI n ≤ x ∧ nI n - 1 < x) := by
  have e1 : (nI n - 1).toInt = (n : Int) - 1 := pk_sub_toInt (b := 1) (by omega) (by decide)
  rcases nn x n (by omega) with ⟨i, h, rfl⟩ | h | ⟨h0, h⟩
  · refine Or.inl ⟨i, h, rfl, nI_pos (by omega), nI_ge h (by omega), ?_⟩
    rw [lt_i, e1, nI_toInt (by omega)]
    omega
  · exact Or.inr (Or.inl h)
  · refine Or.inr (Or.inr ⟨h0, h, ?_⟩)
    rw [lt_i, e1]
    rw [le_i, nI_toInt (by omega)] at h
    omega
theorem macs {B M : Mem} {mc : Nat} (x : Int32) (hB : B 5 4 = nI mc) (hM : M 0 1 = nI mc) (hn : mc ≤ 40) : (∃ i, i < mc ∧ x = nI i ∧ fX4_isKnown x B = some (1, B) ∧ fX9_isMachine x M = some (1, M)) ∨ (fX4_isKnown x B = some (0, B) ∧ fX9_isMachine x M = some (0, M)) := by
  unfold fX4_isKnown fX9_isMachine
  rw [isIn_v, hB, hM, obi_s]
  rcases inx x mc (by omega) with ⟨i, h, rfl, h0, h1, h2⟩ | h | ⟨h0, h1, h2⟩
  · exact Or.inl ⟨i, h, rfl, by rw [if_neg h0, if_neg h1], by rw [if_neg (show ¬ (nI i < 0 ∨ nI mc - 1 < nI i) from fun h => h.elim h0 h2)]; rfl⟩
  · exact Or.inr ⟨by rw [if_pos h], by rw [if_pos (show (x < 0 ∨ nI mc - 1 < x) from Or.inl h)]; rfl⟩
  · exact Or.inr ⟨by rw [if_neg h0, if_pos h1], by rw [if_pos (show (x < 0 ∨ nI mc - 1 < x) from Or.inr h2)]; rfl⟩
theorem crks {B M : Mem} {kc : Nat} (x : Int32) (hB : B 14 5 = nI kc) (hM : M 0 2 = nI kc) (hn : kc ≤ 100) : (∃ i, i < kc ∧ x = nI i ∧ fX2_isKnown x B = some (1, B) ∧ fX9_isIn x 0 (M 0 2 - 1) M = some (1, M)) ∨ (fX2_isKnown x B = some (0, B) ∧ fX9_isIn x 0 (M 0 2 - 1) M = some (0, M)) := by
  unfold fX2_isKnown
  rw [isIn_v, hB, hM]
  rcases inx x kc hn with ⟨i, h, rfl, h0, h1, h2⟩ | h | ⟨h0, h1, h2⟩
  · exact Or.inl ⟨i, h, rfl, by rw [if_neg h0, if_neg h1], by rw [if_neg (show ¬ (nI i < 0 ∨ nI kc - 1 < nI i) from fun h => h.elim h0 h2)]⟩
  · exact Or.inr ⟨by rw [if_pos h], by rw [if_pos (show (x < 0 ∨ nI kc - 1 < x) from Or.inl h)]⟩
  · exact Or.inr ⟨by rw [if_neg h0, if_pos h1], by rw [if_pos (show (x < 0 ∨ nI kc - 1 < x) from Or.inr h2)]⟩
theorem op_machine : Op2 Rel fX8_machine fX9_machine := by
  rintro B M ⟨T, mc, kc, hR⟩ x1 x2
  have hRel : Rel B M := ⟨T, mc, kc, hR⟩
  obtain ⟨r1, r2, -⟩ := hR
  obtain ⟨a1, a2, a3, a4, a5, a6, a7, a8, a9, a10⟩ := r1
  unfold fX8_machine fX9_machine
  rcases macs x1 a4 a5 a6 with ⟨i, hi, rfl, k1, k2⟩ | ⟨k1, k2⟩
  · rw [k1, k2, obi_s, obi_s, i10, i10]
    obtain ⟨b1, b2, b3, b4, -⟩ := r2 i hi
    unfold fX4_serviceOf fX4_priceOf fX4_begunAt fX4_stoppedAt
    have hg := gd2 (show i < 40 by omega) (by decide)
    simp only [if_neg hg, nI_clamp (show i < 2 ^ 31 by omega), b1, b2, b3, b4, obi_s]
    by_cases c0 : x2 = 0
    · rw [if_pos c0, if_pos c0]; exact ⟨_, B, M, rfl, rfl, hRel⟩
    · rw [if_neg c0, if_neg c0]
      by_cases c1 : x2 = 1
      · rw [if_pos c1, if_pos c1]; exact ⟨_, B, M, rfl, rfl, hRel⟩
      · rw [if_neg c1, if_neg c1]
        by_cases c2 : x2 = 2
        · rw [if_pos c2, if_pos c2]; exact ⟨_, B, M, rfl, rfl, hRel⟩
        · rw [if_neg c2, if_neg c2]
          by_cases c3 : x2 = 3
          · rw [if_pos c3, if_pos c3]; exact ⟨_, B, M, rfl, rfl, hRel⟩
          · rw [if_neg c3, if_neg c3]; exact ⟨_, B, M, rfl, rfl, hRel⟩
  · rw [k1, k2, obi_s, obi_s, i00, i00]
    exact ⟨_, B, M, rfl, rfl, hRel⟩
theorem op_cry : Op2 Rel fX8_cry fX9_cry := by
  rintro B M ⟨T, mc, kc, hR⟩ x1 x2
  have hRel : Rel B M := ⟨T, mc, kc, hR⟩
  obtain ⟨r1, r2, r3, r4, r5, r6, -⟩ := hR
  obtain ⟨a1, a2, a3, a4, a5, a6, a7, a8, a9, a10⟩ := r1
  unfold fX8_cry fX9_cry
  rcases crks x1 a7 a8 a9 with ⟨i, hi, rfl, k1, k2⟩ | ⟨k1, k2⟩
  · rw [k1, k2, obi_s, obi_s, i10, i10]
    obtain ⟨b1, b2, b3, b4, b5, -, -, b8⟩ := r6.1 i hi
    unfold fX2_serviceOf fX2_causeOf fX2_cameAt fX2_lastAt fX2_isOpen
    have hg := gd2 (show i < 100 by omega) (by decide)
    have hz : ¬ ¬ (M 15 i = 0 ∨ M 15 i = 1) := fun h => h b8
    simp only [if_neg hg, nI_clamp (show i < 2 ^ 31 by omega), b1, b2, b3, b4, b5, if_neg hz, obi_s]
    by_cases c0 : x2 = 0
    · rw [if_pos c0, if_pos c0]; exact ⟨_, B, M, rfl, rfl, hRel⟩
    · rw [if_neg c0, if_neg c0]
      by_cases c1 : x2 = 1
      · rw [if_pos c1, if_pos c1]; exact ⟨_, B, M, rfl, rfl, hRel⟩
      · rw [if_neg c1, if_neg c1]
        by_cases c2 : x2 = 2
        · rw [if_pos c2, if_pos c2]; exact ⟨_, B, M, rfl, rfl, hRel⟩
        · rw [if_neg c2, if_neg c2]
          by_cases c3 : x2 = 3
          · rw [if_pos c3, if_pos c3]; exact ⟨_, B, M, rfl, rfl, hRel⟩
          · rw [if_neg c3, if_neg c3]
            by_cases c4 : x2 = 4
            · rw [if_pos c4, if_pos c4]
              by_cases c5 : M 15 i = 0
              · rw [if_pos c5, if_pos c5]; exact ⟨_, B, M, rfl, rfl, hRel⟩
              · rw [if_neg c5, if_neg c5]; exact ⟨_, B, M, rfl, rfl, hRel⟩
            · rw [if_neg c4, if_neg c4]; exact ⟨_, B, M, rfl, rfl, hRel⟩
  · rw [k1, k2, obi_s, obi_s, i00, i00]
    exact ⟨_, B, M, rfl, rfl, hRel⟩
theorem R8_upd {B M : Mem} {o f t : Nat} {x : Int32} (r8 : R8 B M) (ho : o < 4) (hf : f ≤ t) (ht : t ≤ 2000) : R8 (upM (upM (upM B 24 o x) 25 o (nI f)) 26 o (nI t)) (upM (upM (upM M 16 o x) 17 o (nI f)) 18 o (nI t)) := by
  intro o' ho'
  by_cases e : o' = o
  · subst e
    refine ⟨by simp [upM, upd], by simp [upM, upd], by simp [upM, upd], f, t, by simp [upM, upd], by simp [upM, upd], hf, ht⟩
  · obtain ⟨a, b, c, d⟩ := r8 o' ho'
    refine ⟨by simpa [upM, upd, e] using a, by simpa [upM, upd, e] using b, by simpa [upM, upd, e] using c, by simpa [upM, upd, e] using d⟩
theorem op_budget : Op4 Rel fX8_budget fX9_budget := by
  rintro B M ⟨T, mc, kc, r1, r2, r3, r4, r5, r6, r7, r8⟩ x1 x2 x3 x4
  have hRel : Rel B M := ⟨T, mc, kc, r1, r2, r3, r4, r5, r6, r7, r8⟩
  unfold fX8_budget fX9_budget
  rcases own x1 with ⟨o, ho, rfl, e1, e2⟩ | ⟨e1, e2⟩
  · rw [e1, e2, obi_s, obi_s, i10, i10, isIn_v, obi_s]
    by_cases c0 : x2 < 0
    · rw [if_pos c0, if_pos (show x2 < 0 ∨ 100000000 < x2 from Or.inl c0), i00]; exact ⟨_, B, M, rfl, rfl, hRel⟩
    · rw [if_neg c0]
      by_cases c1 : x2 ≤ 100000000
      · rw [if_pos c1, if_neg (show ¬ (x2 < 0 ∨ 100000000 < x2) from fun h => h.elim c0 (fun h => by rw [lt_i] at h; rw [le_i] at c1; omega)), i10]
        by_cases c2 : x3 < 0
        · rw [if_pos c2, if_pos c2]; exact ⟨_, B, M, rfl, rfl, hRel⟩
        · rw [if_neg c2, if_neg c2]
          by_cases c3 : x4 ≤ x3
          · rw [if_pos c3, if_pos c3]; exact ⟨_, B, M, rfl, rfl, hRel⟩
          · rw [if_neg c3, if_neg c3]
            by_cases c4 : x4 ≤ 2000
            · rw [if_pos c4, if_pos c4]
              unfold fX1_set
              have hg := gd2 (show o < 4 from ho) (by decide)
              simp only [if_neg hg, nI_clamp (show o < 2 ^ 31 by omega), obi_s]
              obtain ⟨f, hf, rfl⟩ := nI_of c2
              have c5 : ¬ x4 < 0 := by
                intro h
                rw [lt_i] at h
                rw [le_i, nI_toInt hf] at c3
                have : (0 : Int32).toInt = 0 := rfl
                omega
              obtain ⟨t, ht, rfl⟩ := nI_of2 (M := 2000) (n := 2000) rfl c5 c4
              rw [nI_leI (by omega) (by omega)] at c3
              exact ⟨1, _, _, rfl, rfl, T, mc, kc, r1, r2, R3_c r3 rfl rfl rfl rfl rfl, r4, R5_c r5 rfl rfl rfl rfl rfl rfl, r6, r7, R8_upd r8 ho (by omega) ht⟩
            · rw [if_neg c4, if_neg c4]; exact ⟨_, B, M, rfl, rfl, hRel⟩
      · rw [if_neg c1, if_pos (show x2 < 0 ∨ 100000000 < x2 from Or.inr (by rw [lt_i]; rw [le_i] at c1; omega)), i00]; exact ⟨_, B, M, rfl, rfl, hRel⟩
  · rw [e1, e2, obi_s, obi_s, i00, i00]
    exact ⟨_, B, M, rfl, rfl, hRel⟩
theorem op_use : Op2 Rel fX8_use fX9_use := by
  rintro B M ⟨T, mc, kc, r1, r2, r3, r4, r5, r6, r7, r8⟩ x1 x2
  have hRel : Rel B M := ⟨T, mc, kc, r1, r2, r3, r4, r5, r6, r7, r8⟩
  obtain ⟨a1, a2, a3, -⟩ := id r1
  unfold fX8_use fX9_use
  rcases svc x1 with ⟨s, hs, rfl, e1, e2⟩ | ⟨e1, e2⟩
  · rw [e1, e2, obi_s, obi_s, i10, i10, isIn_v, obi_s]
    by_cases c0 : x2 < 0
    · rw [if_pos c0, if_pos (show x2 < 0 ∨ 9999 < x2 from Or.inl c0), i00]; exact ⟨_, B, M, rfl, rfl, hRel⟩
    · rw [if_neg c0]
      by_cases c1 : x2 ≤ 9999
      · rw [if_pos c1, if_neg (show ¬ (x2 < 0 ∨ 9999 < x2) from fun h => h.elim c0 (fun h => by rw [lt_i] at h; rw [le_i] at c1; omega)), i10]
        unfold fX3_usedNow fX3_addUsed
        have hg := gd2 hs (by decide)
        have hg2 := gd2 (show 2000 * s + T < 12000 by omega) (by decide)
        simp only [if_neg hg, nI_clamp (show s < 2 ^ 31 by omega), obi_s, a2, ix2', if_neg hg2, nI_clamp (show 2000 * s + T < 2 ^ 31 by omega)]
        obtain ⟨v, hv, rfl⟩ := nI_of2 (M := 9999) (n := 9999) rfl c0 c1
        obtain ⟨b1, b2⟩ := r4 s hs
        obtain ⟨u, hu, eu⟩ := (b2 T a3).1
        rw [b1, eu, nI_add]
        by_cases c2 : nI (u + v) ≤ 99999
        · rw [if_pos c2, if_pos c2]
          have c3 : u + v ≤ 99999 := (nI_leI (b := 99999) (by omega) (by decide)).mp c2
          refine ⟨1, _, _, rfl, rfl, T, mc, kc, r1, r2, R3_c r3 rfl rfl rfl rfl rfl, ?_, ?_, r6, r7, r8⟩
          · intro s' hs'
            obtain ⟨d1, d2⟩ := r4 s' hs'
            by_cases es : s' = s
            · subst es
              refine ⟨by simp [upM, upd], fun h hh => ?_⟩
              by_cases eh : h = T
              · subst eh
                exact ⟨⟨u + v, c3, by simp [upM, upd]⟩, fun h => absurd h (by omega)⟩
              · rw [upM_eq, upd_ne _ _ (by omega)]
                exact d2 h hh
            · refine ⟨?_, fun h hh => ?_⟩
              · rw [upM_eq, upM_eq, upd_ne _ _ es, upd_ne _ _ (by omega)]
                exact d1
              · rw [upM_eq, upd_ne _ _ (by omega)]
                exact d2 h hh
          · intro s' h hs' hh
            rw [upM_ne _ _ _ (by decide), costs_congr (M := M) (M' := upM M 2 (2000 * s + T) (nI (u + v))) (s := s') (h := h) mc (by rw [upM_eq, upd_ne _ _ (by omega)]) (fun i _ => ⟨rfl, rfl, rfl, Or.inl rfl⟩)]
            exact r5 s' h hs' hh
        · rw [if_neg c2, if_neg c2]; exact ⟨_, B, M, rfl, rfl, hRel⟩
      · rw [if_neg c1, if_pos (show x2 < 0 ∨ 9999 < x2 from Or.inr (by rw [lt_i]; rw [le_i] at c1; omega)), i00]; exact ⟨_, B, M, rfl, rfl, hRel⟩
  · rw [e1, e2, obi_s, obi_s, i00, i00]
    exact ⟨_, B, M, rfl, rfl, hRel⟩

theorem R3_c {B B' M M' : Mem} {mc : Nat} (h : R3 B M mc) (e1 : B' 5 5 = B 5 5) (e2 : B' 3 = B 3) (m5 : M' 5 = M 5) (m6 : M' 6 = M 6) (m8 : M' 8 = M 8) : R3 B' M' mc := by
  unfold R3
  rw [e1, e2, rcnt_congr mc (fun i _ => by rw [m8])]
  exact ⟨h.1, fun s hs => by rw [rsum_congr mc (fun i _ => by rw [m5, m6, m8]; exact ⟨rfl, rfl, rfl⟩)]; exact h.2 s hs⟩
theorem R5_c {B B' M M' : Mem} {T mc : Nat} (h : R5 B M T mc) (e2 : B' 2 = B 2) (m2 : M' 2 = M 2) (m5 : M' 5 = M 5) (m6 : M' 6 = M 6) (m7 : M' 7 = M 7) (m8 : M' 8 = M 8) : R5 B' M' T mc := by
  intro s k hs hk
  rw [e2, costs_congr mc (by rw [m2]) (fun i _ => by rw [m5, m6, m7, m8]; exact ⟨rfl, rfl, rfl, Or.inl rfl⟩)]
  exact h s k hs hk
theorem op_floor : Op1 Rel fX8_floor fX9_floor := by
  rintro B M ⟨T, mc, kc, r1, r2, r3, r4, r5, r6, r7, r8⟩ x
  by_cases h0 : x < 0
  · exact ⟨0, B, M, by rw [fX8_floor, if_pos h0], by rw [fX9_floor, isIn_v, if_pos (Or.inl h0), obi_s, if_pos rfl], T, mc, kc, r1, r2, r3, r4, r5, r6, r7, r8⟩
  · by_cases h1 : x ≤ 9999
    · refine ⟨1, upM B 0 8 x, upM M 0 3 x, by rw [fX8_floor, if_neg h0, if_pos h1], ?_, T, mc, kc, ?_, r2, R3_c r3 rfl rfl rfl rfl rfl, r4, R5_c r5 rfl rfl rfl rfl rfl rfl, r6, r7, r8⟩
      · rw [fX9_floor, isIn_v, if_neg (fun h => h.elim h0 (fun h => by rw [lt_i] at h; rw [le_i] at h1; omega)), obi_s, if_neg (by decide)]
      · obtain ⟨a1, a2, a3, a4, a5, a6, a7, a8, a9, a10⟩ := r1
        exact ⟨a1, a2, a3, a4, a5, a6, a7, a8, a9, rfl⟩
    · refine ⟨0, B, M, by rw [fX8_floor, if_neg h0, if_neg h1], ?_, T, mc, kc, r1, r2, r3, r4, r5, r6, r7, r8⟩
      rw [fX9_floor, isIn_v, if_pos (Or.inr (by rw [lt_i]; rw [le_i] at h1; omega)), obi_s, if_pos rfl]
theorem giveTo_v {s o : Nat} (hs : s < 6) (ho : o < 4) : ∀ (n p : Nat) (B : Mem), p ≤ 4 → 4 - p < n → ∃ B' : Mem, lX6_giveTo_2 n (nI s) (nI o) (nI p) B = some (0, B') ∧ (∀ k, k ≠ 21 → B' k = B k) ∧ ∀ j, B' 21 j = if 4 * s + p ≤ j ∧ j < 4 * s + 4 then (if j = 4 * s + o then 1 else 0) else B 21 j := by
  intro n
  induction n with
  | zero => intro p B h1 h2; omega
  | succ n ih =>
    intro p B h1 h2
    show ∃ B', gX6_giveTo_2 (lX6_giveTo_2 n) (nI s) (nI o) (nI p) B = some (0, B') ∧ _
    unfold gX6_giveTo_2
    by_cases h4 : p = 4
    · subst h4
      refine ⟨B, by rw [if_pos (by decide)], fun _ _ => rfl, fun j => ?_⟩
      rw [if_neg (by omega)]
    · rw [if_neg (by rw [show (4 : Int32) = nI 4 from rfl]; exact nI_ge (by omega) (by decide))]
      have key : ∀ v : Int32, (v = if p = o then 1 else 0) → ∃ B' : Mem, gX6_giveTo_26 (lX6_giveTo_2 n) (nI s) (nI o) (nI p) (nI s * 4 + nI p) v B = some (0, B') ∧ (∀ k, k ≠ 21 → B' k = B k) ∧ ∀ j, B' 21 j = if 4 * s + p ≤ j ∧ j < 4 * s + 4 then (if j = 4 * s + o then 1 else 0) else B 21 j := by
        intro v hv
        unfold gX6_giveTo_26
        rw [ix4, if_neg (gd (by omega) (by decide)), nI_clamp (by omega), nI_1]
        obtain ⟨B', e, hk, hj⟩ := ih (p + 1) (upM B 21 (4 * s + p) v) (by omega) (by omega)
        refine ⟨B', e, fun k h => by rw [hk k h, upM_ne _ _ _ h], fun j => ?_⟩
        rw [hj j, upM_eq]
        by_cases e1 : j = 4 * s + p
        · subst e1
          rw [if_neg (show ¬ (4 * s + (p + 1) ≤ 4 * s + p ∧ 4 * s + p < 4 * s + 4) by omega), upd_eq, hv, if_pos (show 4 * s + p ≤ 4 * s + p ∧ 4 * s + p < 4 * s + 4 by omega)]
          by_cases e2 : p = o
          · rw [if_pos e2, if_pos (show 4 * s + p = 4 * s + o by omega)]
          · rw [if_neg e2, if_neg (show ¬ 4 * s + p = 4 * s + o by omega)]
        · rw [upd_ne _ _ e1]
          by_cases e2 : 4 * s + (p + 1) ≤ j ∧ j < 4 * s + 4
          · rw [if_pos e2, if_pos (show 4 * s + p ≤ j ∧ j < 4 * s + 4 by omega)]
          · rw [if_neg e2, if_neg (show ¬ (4 * s + p ≤ j ∧ j < 4 * s + 4) by omega)]
      by_cases h5 : nI p = nI o
      · rw [if_pos h5]
        have : p = o := (nI_eq (by omega) (by omega)).mp h5
        exact key 1 (by rw [if_pos this])
      · rw [if_neg h5]
        have : p ≠ o := fun e => h5 (by rw [e])
        exact key 0 (by rw [if_neg this])
theorem op_owner : Op2 Rel fX8_owner fX9_owner := by
  rintro B M ⟨T, mc, kc, r1, r2, r3, r4, r5, r6, r7, r8⟩ x1 x2
  rcases svc x1 with ⟨s, hs, rfl, e1, e2⟩ | ⟨e1, e2⟩
  · rcases own x2 with ⟨o, ho, rfl, f1, f2⟩ | ⟨f1, f2⟩
    · obtain ⟨B', g1, g2, g3⟩ := giveTo_v hs ho fu 0 B (by omega) (by unfold fu; omega)
      refine ⟨1, B', upM (upM M 4 s (nI o)) 3 s 0, ?_, ?_, T, mc, kc, ?_, ?_, R3_c r3 (by rw [g2 5 (by decide)]) (g2 3 (by decide)) rfl rfl rfl, ?_, R5_c r5 (g2 2 (by decide)) rfl rfl rfl rfl rfl, ?_, ?_, ?_⟩
      · rw [fX8_owner, e1, obi_s, if_neg (by decide), f1, obi_s, if_neg (by decide)]
        unfold fX6_giveTo
        rw [show (0 : Int32) = nI 0 from rfl, g1, obi_s]
      · rw [fX9_owner, e2, obi_s, if_neg (by decide), f2, obi_s, if_neg (by decide), if_neg (gd hs (by decide)), nI_clamp (by omega)]
      · unfold R1
        rw [g2 1 (by decide), g2 5 (by decide), g2 14 (by decide), g2 0 (by decide)]
        exact r1
      · unfold R2
        rw [g2 6 (by decide), g2 7 (by decide), g2 8 (by decide), g2 9 (by decide)]
        exact r2
      · unfold R4
        rw [g2 4 (by decide)]
        exact r4
      · unfold R6
        rw [g2 15 (by decide), g2 16 (by decide), g2 17 (by decide), g2 18 (by decide), g2 19 (by decide)]
        exact r6
      · intro s' hs'
        by_cases e : s' = s
        · subst e
          refine Or.inl ⟨by rw [upM_eq, upd_eq], o, ho, ?_, fun p hp => ?_⟩
          · rw [upM_ne _ _ _ (by decide), upM_eq, upd_eq]
          · rw [g3, if_pos (by omega)]
            by_cases e3 : p = o
            · rw [if_pos e3, if_pos (by omega)]
            · rw [if_neg e3, if_neg (by omega)]
        · have h3 : upM (upM M 4 s (nI o)) 3 s 0 3 s' = M 3 s' := by rw [upM_eq, upd_ne _ _ e, upM_ne _ _ _ (by decide)]
          have h4 : upM (upM M 4 s (nI o)) 3 s 0 4 s' = M 4 s' := by rw [upM_ne _ _ _ (by decide), upM_eq, upd_ne _ _ e]
          have h5 : ∀ p, p < 4 → B' 21 (4 * s' + p) = B 21 (4 * s' + p) := fun p hp => by rw [g3, if_neg (by omega)]
          rcases r7 s' hs' with ⟨a, o', ho', b, c⟩ | ⟨a, v, b, c⟩
          · exact Or.inl ⟨by rw [h3]; exact a, o', ho', by rw [h4]; exact b, fun p hp => by rw [h5 p hp]; exact c p hp⟩
          · exact Or.inr ⟨by rw [h3]; exact a, v, fun p hp => ⟨(b p hp).1, by rw [h5 p hp]; exact (b p hp).2.1, (b p hp).2.2⟩, c⟩
      · unfold R8
        rw [g2 24 (by decide), g2 25 (by decide), g2 26 (by decide)]
        exact r8
    · exact ⟨0, B, M, by rw [fX8_owner, e1, obi_s, if_neg (by decide), f1, obi_s, if_pos rfl], by rw [fX9_owner, e2, obi_s, if_neg (by decide), f2, obi_s, if_pos rfl], T, mc, kc, r1, r2, r3, r4, r5, r6, r7, r8⟩
  · exact ⟨0, B, M, by rw [fX8_owner, e1, obi_s, if_pos rfl], by rw [fX9_owner, e2, obi_s, if_pos rfl], T, mc, kc, r1, r2, r3, r4, r5, r6, r7, r8⟩
theorem shv (x : Int32) : (∃ v, v ≤ 9 ∧ x = nI v ∧ (∀ B, fX8_isShare x B = some (1, B)) ∧ ∀ M, fX9_isIn x 0 9 M = some (1, M)) ∨ ((∀ B, fX8_isShare x B = some (0, B)) ∧ ∀ M, fX9_isIn x 0 9 M = some (0, M)) := by
  unfold fX8_isShare fX9_isIn
  by_cases h0 : x < 0
  · exact Or.inr ⟨fun B => by rw [if_pos h0], fun M => by rw [if_pos h0]⟩
  · by_cases h1 : 9 < x
    · exact Or.inr ⟨fun B => by rw [if_neg h0, if_pos h1], fun M => by rw [if_neg h0, if_pos h1]⟩
    · obtain ⟨j, hj, e⟩ := nI_of2 (M := 9) (n := 9) rfl h0 (by rw [le_i]; rw [lt_i] at h1; omega)
      exact Or.inl ⟨j, hj, e, fun B => by rw [if_neg h0, if_neg h1], fun M => by rw [if_neg h0, if_neg h1]⟩
theorem i40 (a : Nat) : nI a * 4 = nI (4 * a) := by rw [show (4 : Int32) = nI 4 from rfl, pk_mul, Nat.mul_comm]
theorem i40' (a : Nat) : 4 * nI a = nI (4 * a) := by rw [show (4 : Int32) = nI 4 from rfl, pk_mul]
theorem op_share : Op5 Rel fX8_share fX9_share := by
  rintro B M ⟨T, mc, kc, r1, r2, r3, r4, r5, r6, r7, r8⟩ x1 x2 x3 x4 x5
  have hR : Rel B M := ⟨T, mc, kc, r1, r2, r3, r4, r5, r6, r7, r8⟩
  rcases svc x1 with ⟨s, hs, rfl, e1, e2⟩ | ⟨e1, e2⟩
  · rcases shv x2 with ⟨a, ha, rfl, a1, a2⟩ | ⟨a1, a2⟩
    · rcases shv x3 with ⟨b, hb, rfl, b1, b2⟩ | ⟨b1, b2⟩
      · rcases shv x4 with ⟨c, hc, rfl, c1, c2⟩ | ⟨c1, c2⟩
        · rcases shv x5 with ⟨d, hd, rfl, d1, d2⟩ | ⟨d1, d2⟩
          · by_cases h0 : nI a + nI b + nI c + nI d = 0
            · exact ⟨0, B, M, by rw [fX8_share, e1, obi_s, if_neg (by decide), a1, obi_s, if_neg (by decide), b1, obi_s, if_neg (by decide), c1, obi_s, if_neg (by decide), d1, obi_s, if_neg (by decide), if_pos h0], by rw [fX9_share, e2, obi_s, if_neg (by decide), a2, obi_s, if_neg (by decide), b2, obi_s, if_neg (by decide), c2, obi_s, if_neg (by decide), d2, obi_s, if_neg (by decide), if_pos h0], hR⟩
            · have hsum : 0 < a + b + c + d := by
                rcases Nat.eq_zero_or_pos (a + b + c + d) with h | h
                · exact absurd (by rw [nI_add, nI_add, nI_add, h]; rfl) h0
                · exact h
              refine ⟨1, upM (upM (upM (upM B 21 (4 * s) (nI a)) 21 (4 * s + 1) (nI b)) 21 (4 * s + 2) (nI c)) 21 (4 * s + 3) (nI d), upM (upM (upM (upM (upM M 3 s 1) 1 (4 * s) (nI a)) 1 (4 * s + 1) (nI b)) 1 (4 * s + 2) (nI c)) 1 (4 * s + 3) (nI d), ?_, ?_, T, mc, kc, r1, r2, R3_c r3 rfl rfl rfl rfl rfl, r4, R5_c r5 rfl rfl rfl rfl rfl rfl, r6, ?_, r8⟩
              · rw [fX8_share, e1, obi_s, if_neg (by decide), a1, obi_s, if_neg (by decide), b1, obi_s, if_neg (by decide), c1, obi_s, if_neg (by decide), d1, obi_s, if_neg (by decide), if_neg h0]
                unfold fX6_split
                rw [i40, show (nI (4 * s) + 1 : Int32) = nI (4 * s + 1) from nI_add _ 1, show (nI (4 * s) + 2 : Int32) = nI (4 * s + 2) from nI_add _ 2, show (nI (4 * s) + 3 : Int32) = nI (4 * s + 3) from nI_add _ 3, if_neg (gd (by omega) (by decide)), if_neg (gd (by omega) (by decide)), if_neg (gd (by omega) (by decide)), if_neg (gd (by omega) (by decide)), obi_s, nI_clamp (by omega), nI_clamp (by omega), nI_clamp (by omega), nI_clamp (by omega)]
              · rw [fX9_share, e2, obi_s, if_neg (by decide), a2, obi_s, if_neg (by decide), b2, obi_s, if_neg (by decide), c2, obi_s, if_neg (by decide), d2, obi_s, if_neg (by decide), if_neg h0]
                rw [i40', show (nI (4 * s) + 1 : Int32) = nI (4 * s + 1) from nI_add _ 1, show (nI (4 * s) + 2 : Int32) = nI (4 * s + 2) from nI_add _ 2, show (nI (4 * s) + 3 : Int32) = nI (4 * s + 3) from nI_add _ 3, if_neg (gd hs (by decide)), if_neg (gd (by omega) (by decide)), if_neg (gd (by omega) (by decide)), if_neg (gd (by omega) (by decide)), if_neg (gd (by omega) (by decide)), nI_clamp (by omega), nI_clamp (by omega), nI_clamp (by omega), nI_clamp (by omega), nI_clamp (by omega)]
              · intro s' hs'
                by_cases e : s' = s
                · subst e
                  refine Or.inr ⟨by simp only [upM_eq, upM_ne _ _ _ (show (3 : Nat) ≠ 1 by decide), upd_eq], fun p => if p = 0 then a else if p = 1 then b else if p = 2 then c else d, fun p hp => ?_, by simpa using hsum⟩
                  rcases (show p = 0 ∨ p = 1 ∨ p = 2 ∨ p = 3 by omega) with rfl | rfl | rfl | rfl
                  · exact ⟨by simpa using ha, by simp [upM_eq, upd], by simp [upM_eq, upd]⟩
                  · exact ⟨by simpa using hb, by simp [upM_eq, upd], by simp [upM_eq, upd]⟩
                  · exact ⟨by simpa using hc, by simp [upM_eq, upd], by simp [upM_eq, upd]⟩
                  · exact ⟨by simpa using hd, by simp [upM_eq, upd], by simp [upM_eq, upd]⟩
                · have h3 : (upM (upM (upM (upM (upM M 3 s 1) 1 (4 * s) (nI a)) 1 (4 * s + 1) (nI b)) 1 (4 * s + 2) (nI c)) 1 (4 * s + 3) (nI d)) 3 s' = M 3 s' := by
                    simp only [upM_eq, upM_ne _ _ _ (show (3 : Nat) ≠ 1 by decide), upd_ne _ _ e]
                  have h5 : ∀ p, p < 4 → (upM (upM (upM (upM B 21 (4 * s) (nI a)) 21 (4 * s + 1) (nI b)) 21 (4 * s + 2) (nI c)) 21 (4 * s + 3) (nI d)) 21 (4 * s' + p) = B 21 (4 * s' + p) := fun p hp => by
                    simp only [upM_eq]
                    rw [upd_ne _ _ (by omega), upd_ne _ _ (by omega), upd_ne _ _ (by omega), upd_ne _ _ (by omega)]
                  have h6 : ∀ p, p < 4 → (upM (upM (upM (upM (upM M 3 s 1) 1 (4 * s) (nI a)) 1 (4 * s + 1) (nI b)) 1 (4 * s + 2) (nI c)) 1 (4 * s + 3) (nI d)) 1 (4 * s' + p) = M 1 (4 * s' + p) := fun p hp => by
                    simp only [upM_eq, upM_ne _ _ _ (show (1 : Nat) ≠ 3 by decide)]
                    rw [upd_ne _ _ (by omega), upd_ne _ _ (by omega), upd_ne _ _ (by omega), upd_ne _ _ (by omega)]
                  rcases r7 s' hs' with ⟨a, o', ho', b, c⟩ | ⟨a, v, b, c⟩
                  · exact Or.inl ⟨by rw [h3]; exact a, o', ho', b, fun p hp => by rw [h5 p hp]; exact c p hp⟩
                  · exact Or.inr ⟨by rw [h3]; exact a, v, fun p hp => ⟨(b p hp).1, by rw [h5 p hp]; exact (b p hp).2.1, by rw [h6 p hp]; exact (b p hp).2.2⟩, c⟩
          · exact ⟨0, B, M, by rw [fX8_share, e1, obi_s, if_neg (by decide), a1, obi_s, if_neg (by decide), b1, obi_s, if_neg (by decide), c1, obi_s, if_neg (by decide), d1, obi_s, if_pos rfl], by rw [fX9_share, e2, obi_s, if_neg (by decide), a2, obi_s, if_neg (by decide), b2, obi_s, if_neg (by decide), c2, obi_s, if_neg (by decide), d2, obi_s, if_pos rfl], hR⟩
        · exact ⟨0, B, M, by rw [fX8_share, e1, obi_s, if_neg (by decide), a1, obi_s, if_neg (by decide), b1, obi_s, if_neg (by decide), c1, obi_s, if_pos rfl], by rw [fX9_share, e2, obi_s, if_neg (by decide), a2, obi_s, if_neg (by decide), b2, obi_s, if_neg (by decide), c2, obi_s, if_pos rfl], hR⟩
      · exact ⟨0, B, M, by rw [fX8_share, e1, obi_s, if_neg (by decide), a1, obi_s, if_neg (by decide), b1, obi_s, if_pos rfl], by rw [fX9_share, e2, obi_s, if_neg (by decide), a2, obi_s, if_neg (by decide), b2, obi_s, if_pos rfl], hR⟩
    · exact ⟨0, B, M, by rw [fX8_share, e1, obi_s, if_neg (by decide), a1, obi_s, if_pos rfl], by rw [fX9_share, e2, obi_s, if_neg (by decide), a2, obi_s, if_pos rfl], hR⟩
  · exact ⟨0, B, M, by rw [fX8_share, e1, obi_s, if_pos rfl], by rw [fX9_share, e2, obi_s, if_pos rfl], hR⟩

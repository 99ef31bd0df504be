theorem jump_eq {B M : Mem} {C : Nat → Nat → Int32} {T mc s h : Nat} (cB : CBv B C T) (cM : CMv M C T mc) (cd : Cbd C T) (hfl : B 0 8 = M 0 3) (hs : s < 6) (hh : h ≤ T) : ∃ (r : Int32) (B' M' : Mem), fX8_isJump (nI s) (nI h) B = some (r, B') ∧ fX9_jumps (nI s) (nI h) M = some (r, M') ∧ (r = 0 ∨ r = 1) ∧ (∀ k, k ≠ 10 → k ≠ 11 → B' k = B k) ∧ (∀ k, k ≠ 0 → k ≠ 9 → k ≠ 10 → M' k = M k) ∧ ∀ j, j ≠ 14 → j ≠ 15 → M' 0 j = M 0 j := by
  obtain ⟨r, B', M', f1, f2, hr, k1, k2, k3⟩ := season_eq cB cM cd hs hh
  unfold fX8_isJump fX9_jumps fX5_expected fX5_spread
  rw [f1, f2]
  have cB' : CBv B' C T := cB.of (k1 1 (by decide) (by decide)) (k1 2 (by decide) (by decide)) (k1 3 (by decide) (by decide)) (k1 4 (by decide) (by decide))
  have cM' : CMv M' C T mc := cM.of (k3 0 (by decide) (by decide)) (k3 1 (by decide) (by decide)) (k2 2 (by decide) (by decide) (by decide)) (k2 5 (by decide) (by decide) (by decide)) (k2 6 (by decide) (by decide) (by decide)) (k2 7 (by decide) (by decide) (by decide)) (k2 8 (by decide) (by decide) (by decide))
  rcases hr with rfl | ⟨rfl, e1, e2⟩
  · simp only [obi_s, i00]
    exact ⟨0, B', M', rfl, rfl, Or.inl rfl, k1, k2, k3⟩
  · simp only [obi_s, i10, costB cB' hs hh, costM cM' hs hh, e1, e2]
    rw [k1 0 (by decide) (by decide), hfl, k3 3 (by decide) (by decide)]
    by_cases c : C s h ≤ M' 0 14 + 3 * M' 0 15 + M 0 3
    · rw [if_pos c, if_pos c]
      exact ⟨0, B', M', rfl, rfl, Or.inl rfl, k1, k2, k3⟩
    · rw [if_neg c, if_neg c]
      exact ⟨1, B', M', rfl, rfl, Or.inr rfl, k1, k2, k3⟩
theorem op_season : Op3 Rel fX8_season fX9_season := by
  rintro B M ⟨T, mc, kc, hR⟩ x1 x2 x3
  have hRel : Rel B M := ⟨T, mc, kc, hR⟩
  obtain ⟨cB, cM, cd⟩ := hR.C
  have hfl : B 0 8 = M 0 3 := hR.1.2.2.2.2.2.2.2.2.2
  have hscr : ∀ B' M' : Mem, (∀ k, k ≠ 10 → k ≠ 11 → B' k = B k) → (∀ k, k ≠ 0 → k ≠ 9 → k ≠ 10 → M' k = M k) → (∀ j, j ≠ 14 → j ≠ 15 → M' 0 j = M 0 j) → Rel B' M' := fun B' M' h1 h2 h3 => ⟨T, mc, kc, Rel.scr hR (fun k a b _ => h1 k a b) h2 (fun j hj => h3 j (by omega) (by omega))⟩
  unfold fX8_season fX9_season
  rcases svc x1 with ⟨s, hs, rfl, e1, e2⟩ | ⟨e1, e2⟩
  · rcases told x2 cB.1 cM.1 cB.2.1 with ⟨h, hh, rfl, f1, f2⟩ | ⟨f1, f2⟩
    · simp only [e1, e2, obi_s, i10, f1, f2, isIn_v]
      by_cases c2 : x3 = 2
      · subst c2
        obtain ⟨r, B', M', g1, g2, hr, k1, k2, k3⟩ := jump_eq cB cM cd hfl hs hh
        simp only [if_neg (show ¬ ((2 : Int32) < 0 ∨ (2 : Int32) < 2) by decide), i10, if_pos (show (2 : Int32) = 2 from rfl), g1, g2, obi_s]
        rcases hr with rfl | rfl
        · simp only [i00]
          exact ⟨0, B', M', rfl, rfl, hscr B' M' k1 k2 k3⟩
        · simp only [i10]
          exact ⟨1, B', M', rfl, rfl, hscr B' M' k1 k2 k3⟩
      · simp only [if_neg c2]
        by_cases c0 : x3 < 0 ∨ 2 < x3
        · simp only [if_pos c0, i00]
          by_cases c1 : x3 < 0
          · rw [if_pos c1]
            exact ⟨_, B, M, rfl, rfl, hRel⟩
          · rw [if_neg c1, if_pos (c0.resolve_left c1)]
            exact ⟨_, B, M, rfl, rfl, hRel⟩
        · have n1 : ¬ x3 < 0 := fun q => c0 (Or.inl q)
          have n2 : ¬ 2 < x3 := fun q => c0 (Or.inr q)
          obtain ⟨r, B', M', g1, g2, hr, k1, k2, k3⟩ := season_eq cB cM cd hs hh
          unfold fX5_expected fX5_spread
          simp only [if_neg c0, i10, if_neg n1, if_neg n2, g1, g2, obi_s]
          rcases hr with rfl | ⟨rfl, q1, q2⟩
          · simp only [i00]
            exact ⟨-1, B', M', rfl, rfl, hscr B' M' k1 k2 k3⟩
          · simp only [i10, q1, q2]
            by_cases c3 : x3 = 0
            · rw [if_pos c3, if_pos c3]
              exact ⟨_, B', M', rfl, rfl, hscr B' M' k1 k2 k3⟩
            · rw [if_neg c3, if_neg c3]
              exact ⟨_, B', M', rfl, rfl, hscr B' M' k1 k2 k3⟩
    · simp only [e1, e2, obi_s, i10, f1, f2, i00]
      exact ⟨_, B, M, rfl, rfl, hRel⟩
  · simp only [e1, e2, obi_s, i00]
    exact ⟨_, B, M, rfl, rfl, hRel⟩
theorem cause_l {B M : Mem} {T mc s : Nat} (hB : B 5 4 = nI mc) (hM : M 0 1 = nI mc) (hm : mc ≤ 40) (hT : T < 2000) (r2 : R2 B M T mc) : ∀ (n i : Nat) (best : Int32), (best = -1 ∨ ∃ b, b < 40 ∧ best = nI b ∧ b < mc) → i ≤ mc → mc - i < n → ∃ v, lX4_newestDearest_5 n (nI s) (nI T) best (nI i) B = some (v, B) ∧ lX9_causeOf_5 n (nI s) (nI T) best (nI i) M = some (v, M) := by
  intro n
  induction n with
  | zero => intro i best hb h1 h2; omega
  | succ n ih =>
    intro i best hb h1 h2
    show ∃ v, gX4_newestDearest_5 (lX4_newestDearest_5 n) (nI s) (nI T) best (nI i) B = some (v, B) ∧ gX9_causeOf_5 (lX9_causeOf_5 n) (nI s) (nI T) best (nI i) M = some (v, M)
    unfold gX4_newestDearest_5 gX4_newestDearest_74 gX4_newestDearest_77 gX9_causeOf_5 gX9_causeOf_73 gX9_causeOf_76
    rw [hB, hM]
    by_cases e : i = mc
    · subst e
      rw [if_pos (nI_le (Nat.le_refl i) (by omega)), if_pos (nI_le (Nat.le_refl i) (by omega))]
      exact ⟨best, rfl, rfl⟩
    · have hi : i < mc := by omega
      obtain ⟨d1, d2, d3, d4, d5, d6, ⟨bg, hbg, ebg⟩, d8⟩ := r2 i hi
      have g := gd2 (show i < 40 by omega) (by decide)
      simp only [if_neg (nI_ge hi (show mc < 2 ^ 31 by omega)), nI_clamp (show i < 2 ^ 31 by omega), if_neg g, nI_1, d1, d2, d3, d4, runs_v (show i < 40 by omega), obi_s]
      have k1 := ih (i + 1) best hb (by omega) (by omega)
      have k2 := ih (i + 1) (nI i) (Or.inr ⟨i, by omega, rfl, hi⟩) (by omega) (by omega)
      by_cases c0 : M 5 i = nI s
      · rw [if_pos c0, if_pos c0]
        by_cases c1 : M 8 i = -1
        · have hr : ¬ nI T < M 7 i ∧ (M 8 i = -1 ∨ ¬ M 8 i ≤ nI T) := ⟨by rw [ebg]; exact nI_nlt hbg (by omega), Or.inl c1⟩
          rw [if_pos c1, if_pos hr, i10]
          have hiff : (nI T - 24 < M 7 i) ↔ (nI T - 23 ≤ M 7 i) := by
            rw [lt_i, le_i, ebg, nI_toInt (by omega), show nI T - 24 = nI T - nI 24 from rfl, show nI T - 23 = nI T - nI 23 from rfl, pk_sub_toInt (by omega) (by decide), pk_sub_toInt (by omega) (by decide)]
            omega
          by_cases c2 : nI T - 24 < M 7 i
          · rw [if_pos c2, if_pos (hiff.mp c2)]
            rcases hb with rfl | ⟨b, hb, rfl, hbm⟩
            · rw [if_pos (show (-1 : Int32) = -1 from rfl), if_pos (show (-1 : Int32) = -1 from rfl)]
              exact k2
            · have g2 := gd2 hb (by decide)
              obtain ⟨-, p2, -⟩ := r2 b hbm
              simp only [if_neg (nI_m1 (show b < 2 ^ 31 by omega)), nI_clamp (show b < 2 ^ 31 by omega), if_neg g2, p2]
              by_cases c3 : M 6 i ≤ M 6 b
              · rw [if_pos c3, if_pos c3]
                exact k1
              · rw [if_neg c3, if_neg c3]
                exact k2
          · rw [if_neg c2, if_neg (fun q => c2 (hiff.mpr q))]
            exact k1
        · have hr : ¬ (¬ nI T < M 7 i ∧ (M 8 i = -1 ∨ ¬ M 8 i ≤ nI T)) := fun q => q.2.elim c1 (fun q => by
            rcases d8 with d | ⟨z, hz, ez⟩
            · exact c1 d
            · rw [ez] at q
              exact q (nI_le hz (by omega)))
          rw [if_neg c1, if_neg hr, i00]
          exact k1
      · rw [if_neg c0, if_neg c0]
        exact k1
theorem cause_v {B M : Mem} {T mc s : Nat} (hB : B 5 4 = nI mc) (hM : M 0 1 = nI mc) (hm : mc ≤ 40) (hT : T < 2000) (r2 : R2 B M T mc) : ∃ v, fX4_newestDearest (nI s) (nI T) B = some (v, B) ∧ fX9_causeOf (nI s) (nI T) M = some (v, M) :=
  cause_l hB hM hm hT r2 fu 0 (-1) (Or.inl rfl) (by omega) (by unfold fu; omega)

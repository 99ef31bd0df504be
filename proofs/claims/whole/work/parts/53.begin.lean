theorem add_v {B : Mem} {mc : Nat} (hB : B 5 4 = nI mc) (hm : mc < 40) (x1 x2 x3 : Int32) : ∃ B' : Mem, fX4_add x1 x2 x3 B = some (nI mc, B') ∧ B' 6 = upd (B 6) mc x1 ∧ B' 7 = upd (B 7) mc x2 ∧ B' 8 = upd (B 8) mc x3 ∧ B' 9 = upd (B 9) mc (-1) ∧ B' 5 4 = nI (mc + 1) ∧ B' 5 5 = B 5 5 + 1 ∧ ∀ k, k ≠ 5 → k ≠ 6 → k ≠ 7 → k ≠ 8 → k ≠ 9 → B' k = B k := by
  have hg := gd2 (show mc < 40 from hm) (by decide)
  refine ⟨upM (upM (upM (upM (upM (upM B 6 mc x1) 7 mc x2) 8 mc x3) 9 mc (-1)) 5 4 (nI (mc + 1))) 5 5 (B 5 5 + 1), ?_, by simp [upM], by simp [upM], by simp [upM], by simp [upM], by simp [upM, upd], by simp [upM, upd], fun k h5 h6 h7 h8 h9 => by simp [upM, h5, h6, h7, h8, h9]⟩
  unfold fX4_add
  simp only [upM_ne _ _ _ (show (5 : Nat) ≠ 6 by decide), upM_ne _ _ _ (show (5 : Nat) ≠ 7 by decide), upM_ne _ _ _ (show (5 : Nat) ≠ 8 by decide), upM_ne _ _ _ (show (5 : Nat) ≠ 9 by decide), upM_eq, upd_ne _ _ (show (5 : Nat) ≠ 4 by decide), hB, nI_clamp (show mc < 2 ^ 31 by omega), if_neg hg]
  rw [show nI mc + 1 = nI (mc + 1) from nI_1 mc]
theorem begM {M : Mem} {s T mc : Nat} {x2 : Int32} (hT : M 0 0 = nI T) (hM : M 0 1 = nI mc) (hm : mc < 40) (h1 : fX9_isService (nI s) M = some (1, M)) (h2 : ¬ (x2 < 1 ∨ 999 < x2)) : ∃ M' : Mem, fX9_begin (nI s) x2 M = some (nI mc, M') ∧ M' 5 = upd (M 5) mc (nI s) ∧ M' 6 = upd (M 6) mc x2 ∧ M' 7 = upd (M 7) mc (nI T) ∧ M' 8 = upd (M 8) mc (-1) ∧ M' 0 1 = nI (mc + 1) ∧ (∀ j, j ≠ 1 → M' 0 j = M 0 j) ∧ ∀ k, k ≠ 0 → k ≠ 5 → k ≠ 6 → k ≠ 7 → k ≠ 8 → M' k = M k := by
  have hg := gd2 (show mc < 40 from hm) (by decide)
  have h40 : ¬ nI mc = 40 := fun e => by
    have := (nI_eq (b := 40) (by omega) (by decide)).mp e
    omega
  refine ⟨upM (upM (upM (upM (upM M 5 mc (nI s)) 6 mc x2) 7 mc (nI T)) 8 mc (-1)) 0 1 (nI (mc + 1)), ?_, by simp [upM], by simp [upM], by simp [upM], by simp [upM], by simp [upM, upd], fun j hj => by simp [upM, upd, hj], fun k h0 h5 h6 h7 h8 => by simp [upM, h0, h5, h6, h7, h8]⟩
  unfold fX9_begin
  rw [h1, obi_s, i10, isIn_v, if_neg h2, obi_s, i10]
  simp only [upM_ne _ _ _ (show (0 : Nat) ≠ 5 by decide), upM_ne _ _ _ (show (0 : Nat) ≠ 6 by decide), upM_ne _ _ _ (show (0 : Nat) ≠ 7 by decide), upM_ne _ _ _ (show (0 : Nat) ≠ 8 by decide), upM_eq, upd_eq, hM, hT, nI_clamp (show mc < 2 ^ 31 by omega), if_neg hg, if_neg h40]
  rw [show nI mc + 1 = nI (mc + 1) from nI_1 mc, nI_pred]
theorem op_begin : Op2 Rel fX8_begin fX9_begin := by
  rintro B M ⟨T, mc, kc, r1, r2, r3, r4, r5, r6, r7, r8⟩ x1 x2
  have hRel : Rel B M := ⟨T, mc, kc, r1, r2, r3, r4, r5, r6, r7, r8⟩
  obtain ⟨a1, a2, a3, a4, a5, a6, a7, a8, a9, a10⟩ := id r1
  rcases svc x1 with ⟨s, hs, rfl, e1, e2⟩ | ⟨e1, e2⟩
  · by_cases c0 : x2 < 1 ∨ 999 < x2
    · refine ⟨-1, B, M, ?_, ?_, hRel⟩
      · unfold fX8_begin
        rw [e1, obi_s, i10]
        by_cases c1 : x2 < 1
        · rw [if_pos c1]
        · rw [if_neg c1, if_pos (c0.resolve_left c1)]
      · unfold fX9_begin
        rw [e2, obi_s, i10, isIn_v, if_pos c0, obi_s, i00]
    · have c1 : ¬ x2 < 1 := fun h => c0 (Or.inl h)
      have c2 : ¬ 999 < x2 := fun h => c0 (Or.inr h)
      by_cases c3 : mc = 40
      · refine ⟨-1, B, M, ?_, ?_, hRel⟩
        · unfold fX8_begin fX4_isFull
          rw [e1, obi_s, i10, if_neg c1, if_neg c2, a4, c3, if_neg (show ¬ nI 40 < 40 by decide), obi_s, i10]
        · unfold fX9_begin
          rw [e2, obi_s, i10, isIn_v, if_neg c0, obi_s, i10, a5, c3, if_pos (show nI 40 = 40 by decide)]
      · have hm : mc < 40 := by omega
        obtain ⟨M', m1, m5, m6, m7, m8, m01, m0, mk⟩ := begM (s := s) a2 a5 hm (e2 M) c0
        obtain ⟨B', b1, b6, b7, b8, b9, b54, b55, bk⟩ := add_v (B := upM B 3 s (B 3 s + x2)) (show (upM B 3 s (B 3 s + x2)) 5 4 = nI mc from a4) hm (nI s) x2 (nI T)
        have hp : ∃ p, p ≤ 999 ∧ x2 = nI p := by
          obtain ⟨p, hp, e⟩ := nI_of2 (M := 999) (n := 999) rfl (show ¬ x2 < 0 from fun h => c1 (by rw [lt_i] at h ⊢; have : (0 : Int32).toInt = 0 := rfl; have : (1 : Int32).toInt = 1 := rfl; omega)) (show x2 ≤ 999 by rw [le_i]; rw [lt_i] at c2; omega)
          exact ⟨p, hp, e⟩
        refine ⟨nI mc, B', M', ?_, m1, T, mc + 1, kc, ?_, ?_, ?_, ?_, ?_, ?_, ?_, ?_⟩
        · unfold fX8_begin fX4_isFull
          rw [e1, obi_s, i10, if_neg c1, if_neg c2, a4, if_pos (show nI mc < 40 from nI_lt (b := 40) hm (by decide)), obi_s, i00]
          unfold fX3_addPrice fX3_now
          rw [if_neg (gd hs (by decide)), nI_clamp (by omega), obi_s, obi_s, upM_ne _ _ _ (show (1 : Nat) ≠ 3 by decide), a1, b1, obi_s]
        · refine ⟨?_, ?_, a3, b54, m01, by omega, ?_, ?_, a9, ?_⟩
          · rw [bk 1 (by decide) (by decide) (by decide) (by decide) (by decide)]; exact a1
          · rw [m0 0 (by decide)]; exact a2
          · rw [bk 14 (by decide) (by decide) (by decide) (by decide) (by decide)]; exact a7
          · rw [m0 2 (by decide)]; exact a8
          · rw [bk 0 (by decide) (by decide) (by decide) (by decide) (by decide), m0 3 (by decide)]; exact a10
        · intro i hi
          rw [b6, b7, b8, b9, m5, m6, m7, m8]
          by_cases e : i = mc
          · subst e
            simp only [upd_eq]
            exact ⟨trivial, trivial, trivial, trivial, ⟨s, hs, rfl⟩, hp, ⟨T, Nat.le_refl T, rfl⟩, Or.inl trivial⟩
          · simp only [upd_ne _ _ e]
            exact r2 i (by omega)
        · refine ⟨?_, fun s' hs' => ?_⟩
          · rw [b55, rcnt, m8, upd_eq, if_pos rfl, rcnt_congr (M := M) mc (fun i hi => by rw [m8, upd_ne _ _ (by omega)])]
            rw [show (upM B 3 s (B 3 s + x2)) 5 5 = B 5 5 from rfl, r3.1]
            exact nI_1 _
          · rw [bk 3 (by decide) (by decide) (by decide) (by decide) (by decide), rsum, m5, m6, m8, upd_eq, upd_eq, upd_eq, rsum_congr (M := M) mc (fun i hi => by rw [m5, m6, m8, upd_ne _ _ (by omega), upd_ne _ _ (by omega), upd_ne _ _ (by omega)]; exact ⟨rfl, rfl, rfl⟩), upM_eq]
            by_cases e : s' = s
            · subst e
              rw [upd_eq, if_pos ⟨rfl, rfl⟩, r3.2 s' hs']
            · rw [upd_ne _ _ e, if_neg (fun h => e ((nI_eq (by omega) (by omega)).mp h.1).symm), r3.2 s' hs', Int32.add_zero]
        · unfold R4
          rw [bk 4 (by decide) (by decide) (by decide) (by decide) (by decide), mk 2 (by decide) (by decide) (by decide) (by decide) (by decide)]
          exact r4
        · intro s' h hs' hh
          rw [bk 2 (by decide) (by decide) (by decide) (by decide) (by decide), costs, m7, upd_eq, if_neg (fun q => q.2.1 (nI_lt hh (by omega))), Int32.add_zero, costs_congr (M := M) mc (by rw [mk 2 (by decide) (by decide) (by decide) (by decide) (by decide)]) (fun i hi => by rw [m5, m6, m7, m8, upd_ne _ _ (by omega), upd_ne _ _ (by omega), upd_ne _ _ (by omega), upd_ne _ _ (by omega)]; exact ⟨rfl, rfl, rfl, Or.inl rfl⟩)]
          exact r5 s' h hs' hh
        · unfold R6
          rw [bk 15 (by decide) (by decide) (by decide) (by decide) (by decide), bk 16 (by decide) (by decide) (by decide) (by decide) (by decide), bk 17 (by decide) (by decide) (by decide) (by decide) (by decide), bk 18 (by decide) (by decide) (by decide) (by decide) (by decide), bk 19 (by decide) (by decide) (by decide) (by decide) (by decide), mk 11 (by decide) (by decide) (by decide) (by decide) (by decide), mk 12 (by decide) (by decide) (by decide) (by decide) (by decide), mk 13 (by decide) (by decide) (by decide) (by decide) (by decide), mk 14 (by decide) (by decide) (by decide) (by decide) (by decide), mk 15 (by decide) (by decide) (by decide) (by decide) (by decide)]
          exact r6
        · unfold R7
          rw [bk 21 (by decide) (by decide) (by decide) (by decide) (by decide), mk 1 (by decide) (by decide) (by decide) (by decide) (by decide), mk 3 (by decide) (by decide) (by decide) (by decide) (by decide), mk 4 (by decide) (by decide) (by decide) (by decide) (by decide)]
          exact r7
        · unfold R8
          rw [bk 24 (by decide) (by decide) (by decide) (by decide) (by decide), bk 25 (by decide) (by decide) (by decide) (by decide) (by decide), bk 26 (by decide) (by decide) (by decide) (by decide) (by decide), mk 16 (by decide) (by decide) (by decide) (by decide) (by decide), mk 17 (by decide) (by decide) (by decide) (by decide) (by decide), mk 18 (by decide) (by decide) (by decide) (by decide) (by decide)]
          exact r8
  · refine ⟨-1, B, M, ?_, ?_, hRel⟩
    · unfold fX8_begin
      rw [e1, obi_s, i00]
    · unfold fX9_begin
      rw [e2, obi_s, i00]
theorem rcnt_stop {M : Mem} {i : Nat} {q : Int32} (h : M 8 i = -1) (hq : ¬ q = -1) : ∀ n, i < n → rcnt (upM M 8 i q) n + 1 = rcnt M n
  | n + 1, hi => by
    rw [rcnt, rcnt, upM_eq]
    by_cases e : i = n
    · subst e
      rw [upd_eq, if_neg hq, h, if_pos rfl, rcnt_congr (M := M) i (fun j hj => by rw [upM_eq, upd_ne _ _ (by omega)])]
    · rw [upd_ne _ _ (Ne.symm e)]
      have := rcnt_stop h hq n (by omega)
      omega
theorem rsum_stop {M : Mem} {i : Nat} {q : Int32} {s : Nat} (h : M 8 i = -1) (hq : ¬ q = -1) : ∀ n, i < n → rsum (upM M 8 i q) s n + (if M 5 i = nI s then M 6 i else 0) = rsum M s n
  | n + 1, hi => by
    rw [rsum, rsum, upM_eq, upM_ne _ _ _ (show (5 : Nat) ≠ 8 by decide), upM_ne _ _ _ (show (6 : Nat) ≠ 8 by decide)]
    by_cases e : i = n
    · subst e
      rw [upd_eq, if_neg (fun h => hq h.2), Int32.add_zero, rsum_congr (M := M) i (fun j hj => by rw [upM_eq, upd_ne _ _ (by omega)]; exact ⟨rfl, rfl, rfl⟩)]
      by_cases c : M 5 i = nI s
      · rw [if_pos c, if_pos ⟨c, h⟩]
      · rw [if_neg c, if_neg (fun h => c h.1)]
    · rw [upd_ne _ _ (Ne.symm e), ← rsum_stop h hq n (by omega)]
      grind
theorem op_stop : Op1 Rel fX8_stop fX9_stop := by
  rintro B M ⟨T, mc, kc, r1, r2, r3, r4, r5, r6, r7, r8⟩ x1
  have hRel : Rel B M := ⟨T, mc, kc, r1, r2, r3, r4, r5, r6, r7, r8⟩
  obtain ⟨a1, a2, a3, a4, a5, a6, a7, a8, a9, a10⟩ := id r1
  unfold fX8_stop fX9_stop fX4_isRunning
  rcases macs x1 a4 a5 a6 with ⟨i, hi, rfl, k1, k2⟩ | ⟨k1, k2⟩
  · obtain ⟨b1, b2, b3, b4, ⟨sv, hsv, b5⟩, ⟨pr, hpr, b6⟩, b7, b8⟩ := r2 i hi
    have hg := gd2 (show i < 40 by omega) (by decide)
    rw [k1, k2, obi_s, obi_s, i10, i10]
    simp only [if_neg hg, nI_clamp (show i < 2 ^ 31 by omega), b4]
    by_cases c : M 8 i = -1
    · rw [if_pos c, obi_s, i10]
      unfold fX4_serviceOf fX4_priceOf fX3_addPrice fX3_now fX4_end
      have hg2 := gd2 (show sv < 6 by omega) (by decide)
      simp only [if_neg hg, if_neg hg2, nI_clamp (show i < 2 ^ 31 by omega), nI_clamp (show sv < 2 ^ 31 by omega), b1, b2, b5, b6, obi_s, if_pos c, a2]
      have hT1 : ¬ nI T = -1 := nI_m1 (by omega)
      have e11 : (upM B 3 sv (B 3 sv + -nI pr)) 1 3 = nI T := a1
      rw [e11]
      refine ⟨1, _, _, rfl, rfl, T, mc, kc, ⟨a1, a2, a3, a4, a5, a6, a7, a8, a9, a10⟩, ?_, ?_, r4, ?_, r6, r7, r8⟩
      · intro j hj
        obtain ⟨d1, d2, d3, d4, d5, d6, d7, d8⟩ := r2 j hj
        refine ⟨d1, d2, d3, ?_, d5, d6, d7, ?_⟩
        · rw [upM_ne _ _ _ (show (9 : Nat) ≠ 5 by decide), upM_eq, upM_eq]
          by_cases e : j = i
          · subst e
            rw [upd_eq, upd_eq]
          · rw [upd_ne _ _ e, upd_ne _ _ e]
            exact d4
        · rw [upM_eq]
          by_cases e : j = i
          · subst e
            rw [upd_eq]
            exact Or.inr ⟨T, Nat.le_refl T, rfl⟩
          · rw [upd_ne _ _ e]
            exact d8
      · refine ⟨?_, fun s' hs' => ?_⟩
        · have := rcnt_stop (q := nI T) c hT1 mc hi
          rw [upM_eq, upd_eq]
          show B 5 5 - 1 = _
          rw [r3.1, ← this]
          exact nI_pred _
        · have hh := rsum_stop (q := nI T) (s := s') c hT1 mc hi
          show upd (B 3) sv (B 3 sv + -nI pr) s' = _
          by_cases e : s' = sv
          · subst e
            rw [upd_eq, r3.2 s' hs', ← hh, b5, if_pos rfl, b6]
            exact cancel_np _ _
          · rw [upd_ne _ _ e, r3.2 s' hs', ← hh, b5, if_neg (fun h => e ((nI_eq (by omega) (by omega)).mp h).symm), Int32.add_zero]
      · intro s' h hs' hh
        show B 2 _ = _
        rw [costs_congr (M := M) (M' := upM M 8 i (nI T)) (s := s') (h := h) mc rfl (fun j hj => ⟨rfl, rfl, rfl, ?_⟩)]
        · exact r5 s' h hs' hh
        · by_cases e : j = i
          · subst e
            exact Or.inr ⟨Or.inl c, Or.inr (by rw [upM_eq, upd_eq]; exact nI_ge hh (by omega))⟩
          · exact Or.inl (by rw [upM_eq, upd_ne _ _ e])
    · simp only [if_neg c, obi_s, i00]
      exact ⟨_, B, M, rfl, rfl, hRel⟩
  · rw [k1, k2, obi_s, obi_s, i00, i00, obi_s, i00]
    exact ⟨_, B, M, rfl, rfl, hRel⟩

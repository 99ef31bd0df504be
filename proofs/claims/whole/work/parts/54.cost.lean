def CBv (B : Mem) (C : Nat → Nat → Int32) (T : Nat) : Prop := B 1 3 = nI T ∧ T < 2000 ∧ (∀ s, s < 6 → B 3 s + B 4 s = C s T) ∧ ∀ s h, s < 6 → h < T → B 2 (2000 * s + h) = C s h
def CMv (M : Mem) (C : Nat → Nat → Int32) (T mc : Nat) : Prop := M 0 0 = nI T ∧ T < 2000 ∧ M 0 1 = nI mc ∧ mc ≤ 40 ∧ ∀ s h, s < 6 → h ≤ T → costs M s h mc = C s h
def Cbd (C : Nat → Nat → Int32) (T : Nat) : Prop := ∀ s h, s < 6 → h ≤ T → ∃ c, c ≤ 139959 ∧ C s h = nI c
theorem CBv.of {B B' : Mem} {C : Nat → Nat → Int32} {T : Nat} (h : CBv B C T) (h1 : B' 1 = B 1) (h2 : B' 2 = B 2) (h3 : B' 3 = B 3) (h4 : B' 4 = B 4) : CBv B' C T := by
  unfold CBv
  rw [h1, h2, h3, h4]
  exact h
theorem CMv.of {M M' : Mem} {C : Nat → Nat → Int32} {T mc : Nat} (h : CMv M C T mc) (h0 : M' 0 0 = M 0 0) (h01 : M' 0 1 = M 0 1) (h2 : M' 2 = M 2) (h5 : M' 5 = M 5) (h6 : M' 6 = M 6) (h7 : M' 7 = M 7) (h8 : M' 8 = M 8) : CMv M' C T mc := by
  unfold CMv
  rw [h0, h01]
  refine ⟨h.1, h.2.1, h.2.2.1, h.2.2.2.1, fun s k hs hk => ?_⟩
  rw [costs_congr (M := M) (M' := M') (s := s) (h := k) mc (by rw [h2]) (fun i _ => by rw [h5, h6, h7, h8]; exact ⟨rfl, rfl, rfl, Or.inl rfl⟩)]
  exact h.2.2.2.2 s k hs hk
theorem costB {B : Mem} {C : Nat → Nat → Int32} {T s h : Nat} (H : CBv B C T) (hs : s < 6) (hh : h ≤ T) : fX3_costOf (nI s) (nI h) B = some (C s h, B) := by
  obtain ⟨a, b, c, d⟩ := H
  unfold fX3_costOf
  by_cases e : h = T
  · subst e
    rw [a, if_pos rfl, if_neg (gd hs (by decide)), nI_clamp (by omega), c s hs]
  · rw [a, if_neg (fun q => e ((nI_eq (by omega) (by omega)).mp q)), ix2, if_neg (gd (by omega) (by decide)), nI_clamp (by omega), d s h hs (by omega)]
theorem runs_v {M : Mem} {i : Nat} (hi : i < 40) (x : Int32) : fX9_runs (nI i) x M = some (if ¬ x < M 7 i ∧ (M 8 i = -1 ∨ ¬ M 8 i ≤ x) then 1 else 0, M) := by
  unfold fX9_runs gX9_runs_30
  rw [if_neg (gd hi (by decide)), nI_clamp (by omega)]
  by_cases c0 : x < M 7 i
  · rw [if_pos c0, if_neg (fun h => h.1 c0)]
  · rw [if_neg c0]
    by_cases c1 : M 8 i = -1
    · rw [if_pos c1, if_pos ⟨c0, Or.inl c1⟩]
    · rw [if_neg c1]
      by_cases c2 : M 8 i ≤ x
      · rw [if_pos c2, if_neg (fun h => h.2.elim c1 (fun q => q c2))]
      · rw [if_neg c2, if_pos ⟨c0, Or.inr c2⟩]
theorem costM_l {M : Mem} {mc s h : Nat} (hM : M 0 1 = nI mc) (hm : mc ≤ 40) : ∀ (n i : Nat), i ≤ mc → mc - i < n → lX9_costOf_16 n (nI s) (nI h) (costs M s h i) (nI i) M = some (costs M s h mc, M) := by
  intro n
  induction n with
  | zero => intro i h1 h2; omega
  | succ n ih =>
    intro i h1 h2
    show gX9_costOf_16 (lX9_costOf_16 n) (nI s) (nI h) (costs M s h i) (nI i) M = _
    unfold gX9_costOf_16 gX9_costOf_57 gX9_costOf_58
    rw [hM]
    by_cases e : i = mc
    · subst e
      rw [if_pos (nI_le (Nat.le_refl i) (by omega))]
    · have hi : i < mc := by omega
      have key := ih (i + 1) (by omega) (by omega)
      rw [costs] at key
      rw [if_neg (nI_ge hi (by omega)), if_neg (gd (show i < 40 by omega) (by decide)), nI_clamp (by omega), runs_v (by omega), obi_s, nI_1]
      by_cases c0 : M 5 i = nI s
      · rw [if_pos c0]
        by_cases c1 : ¬ nI h < M 7 i ∧ (M 8 i = -1 ∨ ¬ M 8 i ≤ nI h)
        · rw [if_pos c1, i10]
          rw [if_pos ⟨c0, c1⟩] at key
          exact key
        · rw [if_neg c1, i00]
          rw [if_neg (fun q => c1 q.2)] at key
          exact key
      · rw [if_neg c0]
        rw [if_neg (fun q => c0 q.1)] at key
        exact key
theorem costM {M : Mem} {C : Nat → Nat → Int32} {T mc s h : Nat} (H : CMv M C T mc) (hs : s < 6) (hh : h ≤ T) : fX9_costOf (nI s) (nI h) M = some (C s h, M) := by
  obtain ⟨a, b, c, d, e⟩ := H
  unfold fX9_costOf
  rw [ix2', if_neg (gd (by omega) (by decide)), nI_clamp (by omega), ← e s h hs hh]
  exact costM_l c d fu 0 (by omega) (by unfold fu; omega)
theorem costs_T {M : Mem} {T s : Nat} (hT : T < 2000) : ∀ n, (∀ i, i < n → (∃ b, b ≤ T ∧ M 7 i = nI b) ∧ (M 8 i = -1 ∨ ∃ q, q ≤ T ∧ M 8 i = nI q)) → rsum M s n + M 2 (2000 * s + T) = costs M s T n
  | 0, _ => by rw [rsum, costs, Int32.zero_add]
  | n + 1, h => by
    obtain ⟨⟨b, hb, eb⟩, h8⟩ := h n (Nat.lt_succ_self n)
    rw [rsum, costs, ← costs_T hT n (fun i hi => h i (by omega))]
    have c0 : ¬ nI T < M 7 n := by rw [eb]; exact nI_nlt hb (by omega)
    have c1 : (M 8 n = -1 ∨ ¬ M 8 n ≤ nI T) ↔ M 8 n = -1 := by
      constructor
      · rintro (q | q)
        · exact q
        · rcases h8 with e | ⟨q', hq, e⟩
          · exact e
          · rw [e] at q
            exact absurd (nI_le hq (by omega)) q
      · exact Or.inl
    by_cases c2 : M 5 n = nI s ∧ M 8 n = -1
    · rw [if_pos c2, if_pos ⟨c2.1, c0, Or.inl c2.2⟩]
      grind
    · rw [if_neg c2, if_neg (fun q => c2 ⟨q.1, c1.mp q.2.2⟩)]
      grind
theorem costs_bd {M : Mem} {s h : Nat} (h0 : ∃ u, u ≤ 99999 ∧ M 2 (2000 * s + h) = nI u) : ∀ n, (∀ i, i < n → ∃ p, p ≤ 999 ∧ M 6 i = nI p) → ∃ c, c ≤ 99999 + 999 * n ∧ costs M s h n = nI c
  | 0, _ => by
    obtain ⟨u, hu, e⟩ := h0
    exact ⟨u, by omega, e⟩
  | n + 1, h1 => by
    obtain ⟨c, hc, ec⟩ := costs_bd h0 n (fun i hi => h1 i (by omega))
    obtain ⟨p, hp, ep⟩ := h1 n (Nat.lt_succ_self n)
    rw [costs, ec, ep]
    by_cases c2 : M 5 n = nI s ∧ ¬ nI h < M 7 n ∧ (M 8 n = -1 ∨ ¬ M 8 n ≤ nI h)
    · rw [if_pos c2, nI_add]
      exact ⟨c + p, by omega, rfl⟩
    · rw [if_neg c2, Int32.add_zero]
      exact ⟨c, by omega, rfl⟩
theorem RR.C {B M : Mem} {T mc kc : Nat} (h : RR B M T mc kc) : CBv B (fun s h => costs M s h mc) T ∧ CMv M (fun s h => costs M s h mc) T mc ∧ Cbd (fun s h => costs M s h mc) T := by
  obtain ⟨r1, r2, r3, r4, r5, r6, r7, r8⟩ := h
  obtain ⟨a1, a2, a3, a4, a5, a6, a7, a8, a9, a10⟩ := r1
  refine ⟨⟨a1, a3, fun s hs => ?_, r5⟩, ⟨a2, a3, a5, a6, fun _ _ _ _ => rfl⟩, fun s h hs hh => ?_⟩
  · rw [r3.2 s hs, (r4 s hs).1]
    exact costs_T a3 mc (fun i hi => ⟨(r2 i hi).2.2.2.2.2.2.1, (r2 i hi).2.2.2.2.2.2.2⟩)
  · obtain ⟨c, hc, e⟩ := costs_bd ((r4 s hs).2 h (by omega)).1 mc (fun i hi => (r2 i hi).2.2.2.2.2.1)
    exact ⟨c, by omega, e⟩
theorem told {B M : Mem} {T : Nat} (x : Int32) (hB : B 1 3 = nI T) (hM : M 0 0 = nI T) (hT : T < 2000) : (∃ h, h ≤ T ∧ x = nI h ∧ fX8_isTold x B = some (1, B) ∧ fX9_isHour x M = some (1, M)) ∨ (fX8_isTold x B = some (0, B) ∧ fX9_isHour x M = some (0, M)) := by
  unfold fX8_isTold fX9_isHour fX3_now
  rw [isIn_v, hB, hM, obi_s, obi_s]
  by_cases c0 : x < 0
  · exact Or.inr ⟨by rw [if_pos c0], by rw [if_pos (show x < 0 ∨ nI T < x from Or.inl c0)]; rfl⟩
  · by_cases c1 : nI T < x
    · exact Or.inr ⟨by rw [if_neg c0, if_pos c1], by rw [if_pos (show x < 0 ∨ nI T < x from Or.inr c1)]; rfl⟩
    · obtain ⟨j, hj, rfl⟩ := nI_of c0
      refine Or.inl ⟨j, ?_, rfl, by rw [if_neg c0, if_neg c1], by rw [if_neg (show ¬ (nI j < 0 ∨ nI T < nI j) from fun h => h.elim c0 c1)]; rfl⟩
      rw [nI_ltI (by omega) hj] at c1
      omega
theorem op_cost : Op2 Rel fX8_cost fX9_cost := by
  rintro B M ⟨T, mc, kc, hR⟩ x1 x2
  have hRel : Rel B M := ⟨T, mc, kc, hR⟩
  obtain ⟨cB, cM, -⟩ := hR.C
  unfold fX8_cost fX9_cost
  rcases svc x1 with ⟨s, hs, rfl, e1, e2⟩ | ⟨e1, e2⟩
  · rw [e1, e2, obi_s, obi_s, i10, i10]
    rcases told x2 cB.1 cM.1 cB.2.1 with ⟨h, hh, rfl, f1, f2⟩ | ⟨f1, f2⟩
    · rw [f1, f2, obi_s, obi_s, i10, i10, costB cB hs hh, costM cM hs hh]
      exact ⟨_, B, M, rfl, rfl, hRel⟩
    · rw [f1, f2, obi_s, obi_s, i00, i00]
      exact ⟨_, B, M, rfl, rfl, hRel⟩
  · rw [e1, e2, obi_s, obi_s, i00, i00]
    exact ⟨_, B, M, rfl, rfl, hRel⟩
theorem look2_l {M : Mem} {mc : Nat} (x : Int32) (hM : M 0 1 = nI mc) (hm : mc ≤ 40) : ∀ (n i : Nat), i ≤ mc → mc - i < n → lX9_look_52 n x (nI (rcnt M i)) (nI i) M = some (nI (rcnt M mc), M) := by
  intro n
  induction n with
  | zero => intro i h1 h2; omega
  | succ n ih =>
    intro i h1 h2
    show gX9_look_52 (lX9_look_52 n) x (nI (rcnt M i)) (nI i) M = _
    unfold gX9_look_52 gX9_look_76
    rw [hM]
    by_cases e : i = mc
    · subst e
      rw [if_pos (nI_le (Nat.le_refl i) (by omega))]
    · have hi : i < mc := by omega
      have key := ih (i + 1) (by omega) (by omega)
      rw [rcnt] at key
      rw [if_neg (nI_ge hi (by omega)), if_neg (gd (show i < 40 by omega) (by decide)), nI_clamp (by omega), show nI i + 1 = nI (i + 1) from nI_1 i]
      by_cases c0 : M 8 i = -1
      · rw [if_pos c0] at key ⊢
        rw [show (1 : Int32) = nI 1 from rfl, nI_add]
        exact key
      · rw [if_neg c0] at key ⊢
        rw [Int32.add_zero]
        exact key
theorem look4_l {B M : Mem} {kc : Nat} (x : Int32) (hB : B 14 5 = nI kc) (hM : M 0 2 = nI kc) (hk : kc ≤ 100) (hh : ∀ i, i < kc → B 19 i = M 15 i) : ∀ (n i : Nat) (acc : Int32), i ≤ kc → kc - i < n → ∃ v, lX2_openCount_4 n acc (nI i) B = some (v, B) ∧ lX9_look_93 n x acc (nI i) M = some (v, M) := by
  intro n
  induction n with
  | zero => intro i acc h1 h2; omega
  | succ n ih =>
    intro i acc h1 h2
    show ∃ v, gX2_openCount_4 (lX2_openCount_4 n) acc (nI i) B = some (v, B) ∧ gX9_look_93 (lX9_look_93 n) x acc (nI i) M = some (v, M)
    unfold gX2_openCount_4 gX2_openCount_24 gX9_look_93 gX9_look_116
    rw [hB, hM]
    by_cases e : i = kc
    · subst e
      rw [if_pos (nI_le (Nat.le_refl i) (by omega)), if_pos (nI_le (Nat.le_refl i) (by omega))]
      exact ⟨acc, rfl, rfl⟩
    · have hi : i < kc := by omega
      have g := gd2 (show i < 100 by omega) (by decide)
      simp only [if_neg (nI_ge hi (show kc < 2 ^ 31 by omega)), nI_clamp (show i < 2 ^ 31 by omega), if_neg g, nI_1, hh i hi]
      by_cases c0 : M 15 i = 0
      · simp only [if_pos c0, Int32.add_zero]
        exact ih (i + 1) acc (by omega) (by omega)
      · simp only [if_neg c0]
        exact ih (i + 1) (acc + 1) (by omega) (by omega)
theorem op_look : Op1 Rel fX8_look fX9_look := by
  rintro B M ⟨T, mc, kc, hR⟩ x
  have hRel : Rel B M := ⟨T, mc, kc, hR⟩
  obtain ⟨r1, r2, r3, r4, r5, r6, r7, r8⟩ := hR
  obtain ⟨a1, a2, a3, a4, a5, a6, a7, a8, a9, a10⟩ := r1
  unfold fX8_look fX9_look fX3_now fX4_begunCount fX4_runningCount fX2_count fX2_openCount
  simp only [obi_s]
  by_cases c0 : x = 0
  · simp only [if_pos c0, a1, a2]; exact ⟨_, B, M, rfl, rfl, hRel⟩
  · simp only [if_neg c0]
    by_cases c1 : x = 1
    · simp only [if_pos c1, a4, a5]; exact ⟨_, B, M, rfl, rfl, hRel⟩
    · simp only [if_neg c1]
      by_cases c2 : x = 2
      · simp only [if_pos c2, r3.1]
        exact ⟨_, B, M, rfl, look2_l x a5 a6 fu 0 (by omega) (by unfold fu; omega), hRel⟩
      · simp only [if_neg c2]
        by_cases c3 : x = 3
        · simp only [if_pos c3, a7, a8]; exact ⟨_, B, M, rfl, rfl, hRel⟩
        · simp only [if_neg c3]
          by_cases c4 : x = 4
          · simp only [if_pos c4]
            obtain ⟨v, v1, v2⟩ := look4_l x a7 a8 a9 (fun i hi => (r6.1 i hi).2.2.2.2.1) fu 0 0 (by omega) (by unfold fu; omega)
            exact ⟨v, B, M, by rw [show (0 : Int32) = nI 0 from rfl] at v1 ⊢; rw [v1, obi_s], v2, hRel⟩
          · simp only [if_neg c4]
            by_cases c5 : x = 5
            · simp only [if_pos c5, a10]; exact ⟨_, B, M, rfl, rfl, hRel⟩
            · simp only [if_neg c5]; exact ⟨_, B, M, rfl, rfl, hRel⟩

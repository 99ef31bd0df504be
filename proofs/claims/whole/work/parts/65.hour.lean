/-- within an hour, with the services below s looked at -/
def RM (B M : Mem) (T mc kc s : Nat) : Prop := RR B (stM M 15 (B 19)) T mc kc ∧ ∀ i, i < kc → ∃ v q, v < 6 ∧ q ≤ T ∧ M 11 i = nI v ∧ M 14 i = nI q ∧ M 15 i = if v < s ∧ q + 6 ≤ T then 0 else B 19 i
theorem RM.scr {B B' M M' : Mem} {T mc kc s : Nat} (h : RM B M T mc kc s) (hB : ∀ k, k ≠ 10 → k ≠ 11 → B' k = B k) (hM : ∀ k, k ≠ 0 → k ≠ 9 → k ≠ 10 → M' k = M k) (h0 : ∀ j, j ≠ 14 → j ≠ 15 → M' 0 j = M 0 j) : RM B' M' T mc kc s := by
  have b19 := hB 19 (by decide) (by decide)
  refine ⟨Rel.scr h.1 (fun k a b _ => hB k a b) (fun k a b c => ?_) (fun j hj => ?_), ?_⟩
  · rw [b19]
    by_cases e : k = 15
    · subst e; rw [stM_eq, stM_eq]
    · rw [stM_ne _ _ e, stM_ne _ _ e]; exact hM k a b c
  · rw [stM_ne _ _ (by decide), stM_ne _ _ (by decide)]
    exact h0 j (by omega) (by omega)
  · rw [hM 11 (by decide) (by decide) (by decide), hM 14 (by decide) (by decide) (by decide), hM 15 (by decide) (by decide) (by decide), b19]
    exact h.2
theorem raise_eq {B M : Mem} {T mc kc s : Nat} (h : RM B M T mc kc s) (hs : s < 6) (c : Int32) : ∃ (kc' : Nat) (B' M' : Mem), fX2_raise (nI s) c (nI T) B = some (0, B') ∧ fX9_cries (nI s) c (nI T) M = some (0, M') ∧ RM B' M' T mc kc' s := by
  obtain ⟨⟨r1, r2, r3, r4, r5, r6, r7, r8⟩, h2⟩ := id h
  obtain ⟨a1, a2, a3, a4, a5, a6, a7, a8, a9, a10⟩ := id r1
  have hm2 : M 0 2 = nI kc := a8
  have q15 : ∀ i, i < kc → B 15 i = M 11 i := fun i hi => (r6.1 i hi).1
  have q16 : ∀ i, i < kc → B 16 i = M 12 i := fun i hi => (r6.1 i hi).2.1
  have own : ∀ i, i < kc → M 11 i = nI s → M 15 i = B 19 i := by
    intro i hi e
    obtain ⟨v, q, hv, -, ev, -, e15⟩ := h2 i hi
    have : v = s := (nI_eq (by omega) (by omega)).mp (ev.symm.trans e)
    rw [e15, if_neg (by omega)]
  have one : ∀ i, i < kc → ¬ B 19 i = 0 → B 19 i = 1 := fun i hi hn => by
    rcases (r6.1 i hi).2.2.2.2.2.2.2 with e | e
    · exact absurd e hn
    · exact e
  unfold fX2_raise fX9_cries
  rcases openFor_l (s := s) (c := c) a7 a9 fu 0 (by omega) (by unfold fu; omega) with ⟨j, -, hj, hm, hof⟩ | ⟨hno, hof⟩
  · have hmM : MtM M s c j := ⟨by rw [own j hj (by rw [← q15 j hj]; exact hm.2.1)]; exact hm.1, by rw [← q15 j hj]; exact hm.2.1, by rw [← q16 j hj]; exact hm.2.2⟩
    have huq : ∀ i, i < kc → i ≠ j → ¬ MtM M s c i := by
      intro i hi hne hmi
      have b1 := one i hi (by rw [← own i hi hmi.2.1]; exact hmi.1)
      have b2 := one j hj hm.1
      rcases Nat.lt_or_gt_of_ne hne with hlt | hgt
      · exact r6.2 i j hlt hj b1 b2 (hmi.2.1.trans hmM.2.1.symm) (hmi.2.2.trans hmM.2.2.symm)
      · exact r6.2 j i hgt hi b2 b1 (hmM.2.1.trans hmi.2.1.symm) (hmM.2.2.trans hmi.2.2.symm)
    refine ⟨kc, upM B 18 j (nI T), upM M 14 j (nI T), ?_, ?_, ⟨r1, r2, R3_c r3 rfl rfl rfl rfl rfl, r4, R5_c r5 rfl rfl rfl rfl rfl rfl, ?_, r7, r8⟩, ?_⟩
    · unfold fX2_openFor
      rw [show lX2_openFor_2 fu (nI s) c (0 : Int32) B = some (nI j, B) from hof, obi_s, if_neg (nI_m1 (by omega)), if_neg (gd (show j < 100 by omega) (by decide)), nI_clamp (by omega)]
    · rw [show lX9_cries_6 fu (nI s) c (nI T) (0 : Int32) (0 : Int32) M = _ from crM_one hm2 a9 hj hmM fu 0 0 (by omega) (by unfold fu; omega) huq]
      exact Ecr_is
    · refine ⟨fun i hi => ?_, r6.2⟩
      obtain ⟨d1, d2, d3, d4, d5, d6, d7, d8⟩ := r6.1 i hi
      refine ⟨d1, d2, d3, ?_, d5, d6, ?_, d8⟩
      · show upd (B 18) j (nI T) i = upd (M 14) j (nI T) i
        by_cases e : i = j
        · subst e; rw [upd_eq, upd_eq]
        · rw [upd_ne _ _ e, upd_ne _ _ e]; exact d4
      · show ∃ q, q ≤ T ∧ upd (M 14) j (nI T) i = nI q
        by_cases e : i = j
        · subst e; rw [upd_eq]; exact ⟨T, Nat.le_refl T, rfl⟩
        · rw [upd_ne _ _ e]; exact d7
    · intro i hi
      obtain ⟨v, q, hv, hq, ev, eq, e15⟩ := h2 i hi
      by_cases e : i = j
      · subst e
        have : v = s := (nI_eq (by omega) (by omega)).mp (ev.symm.trans hmM.2.1)
        refine ⟨v, T, hv, Nat.le_refl T, ev, ?_, ?_⟩
        · rw [upM_eq, upd_eq]
        · show M 15 i = if v < s ∧ T + 6 ≤ T then 0 else B 19 i
          rw [if_neg (by omega)]
          exact own i hi hmM.2.1
      · exact ⟨v, q, hv, hq, ev, by rw [upM_eq, upd_ne _ _ e]; exact eq, e15⟩
  · have hnoM : ∀ i, 0 ≤ i → i < kc → ¬ MtM M s c i := fun i _ hi hmi => hno i (by omega) hi ⟨by rw [← own i hi hmi.2.1]; exact hmi.1, by rw [q15 i hi]; exact hmi.2.1, by rw [q16 i hi]; exact hmi.2.2⟩
    have hcr : lX9_cries_6 fu (nI s) c (nI T) (0 : Int32) (0 : Int32) M = Ecr (nI s) c (nI T) 0 M := crM_none hm2 a9 fu 0 (by omega) (by unfold fu; omega) hnoM
    have hofB : fX2_openFor (nI s) c B = some (-1, B) := hof
    by_cases e100 : kc = 100
    · refine ⟨kc, B, M, ?_, ?_, h⟩
      · rw [hofB, obi_s, if_pos (show (-1 : Int32) = -1 from rfl), a7, e100, if_pos (show (100 : Int32) ≤ nI 100 by decide)]
      · rw [hcr]
        exact Ecr_full (by rw [hm2, e100]; rfl)
    · have hk : kc < 100 := by omega
      obtain ⟨B', f1, b15, b16, b17, b18, b19, b14, bk⟩ := addB_v (x1 := nI s) (x2 := c) (x3 := nI T) a7 hk
      obtain ⟨M', g1, m11, m12, m13, m14, m15, m02, m0, mk⟩ := Ecr_add (x1 := nI s) (x2 := c) (x3 := nI T) hm2 hk
      have nb : ∀ k, k < 14 → B' k = B k := fun k hk => bk k (by omega) (by omega) (by omega) (by omega) (by omega) (by omega)
      have nb2 : ∀ k, 19 < k → B' k = B k := fun k hk => bk k (by omega) (by omega) (by omega) (by omega) (by omega) (by omega)
      have nm : ∀ k, 0 < k → k < 11 → M' k = M k := fun k h1 h2 => mk k (by omega) (by omega) (by omega) (by omega) (by omega) (by omega)
      have nm2 : ∀ k, 15 < k → M' k = M k := fun k h1 => mk k (by omega) (by omega) (by omega) (by omega) (by omega) (by omega)
      refine ⟨kc + 1, B', M', ?_, ?_, ⟨?_, ?_, ?_, ?_, ?_, ?_, ?_, ?_⟩, ?_⟩
      · rw [hofB, obi_s, if_pos (show (-1 : Int32) = -1 from rfl), a7, if_neg (show ¬ (100 : Int32) ≤ nI kc from nI_ge (b := 100) hk (by decide)), f1, obi_s]
      · rw [hcr]
        exact g1
      · refine ⟨by rw [nb 1 (by decide)]; exact a1, ?_, a3, by rw [nb 5 (by decide)]; exact a4, ?_, a6, b14, ?_, by omega, ?_⟩
        · show M' 0 0 = _
          rw [m0 0 (by decide)]; exact a2
        · show M' 0 1 = _
          rw [m0 1 (by decide)]; exact a5
        · show M' 0 2 = _
          exact m02
        · show B' 0 8 = M' 0 3
          rw [nb 0 (by decide), m0 3 (by decide)]; exact a10
      · intro i hi
        show B' 6 i = M' 5 i ∧ B' 7 i = M' 6 i ∧ B' 8 i = M' 7 i ∧ B' 9 i = M' 8 i ∧ (∃ s, s < 6 ∧ M' 5 i = nI s) ∧ (∃ p, p ≤ 999 ∧ M' 6 i = nI p) ∧ (∃ b, b ≤ T ∧ M' 7 i = nI b) ∧ (M' 8 i = -1 ∨ ∃ q, q ≤ T ∧ M' 8 i = nI q)
        rw [nb 6 (by decide), nb 7 (by decide), nb 8 (by decide), nb 9 (by decide), nm 5 (by decide) (by decide), nm 6 (by decide) (by decide), nm 7 (by decide) (by decide), nm 8 (by decide) (by decide)]
        exact r2 i hi
      · exact R3_c r3 (by rw [nb 5 (by decide)]) (nb 3 (by decide)) (nm 5 (by decide) (by decide)) (nm 6 (by decide) (by decide)) (nm 8 (by decide) (by decide))
      · intro s' hs'
        show B' 4 s' = M' 2 (2000 * s' + T) ∧ ∀ h, h < 2000 → (∃ u, u ≤ 99999 ∧ M' 2 (2000 * s' + h) = nI u) ∧ (T < h → M' 2 (2000 * s' + h) = 0)
        rw [nb 4 (by decide), nm 2 (by decide) (by decide)]
        exact r4 s' hs'
      · exact R5_c r5 (nb 2 (by decide)) (nm 2 (by decide) (by decide)) (nm 5 (by decide) (by decide)) (nm 6 (by decide) (by decide)) (nm 7 (by decide) (by decide)) (nm 8 (by decide) (by decide))
      · refine ⟨fun i hi => ?_, fun i j hij hj h1 h2 h3 => ?_⟩
        · show B' 15 i = M' 11 i ∧ B' 16 i = M' 12 i ∧ B' 17 i = M' 13 i ∧ B' 18 i = M' 14 i ∧ B' 19 i = B' 19 i ∧ (∃ s, s < 6 ∧ M' 11 i = nI s) ∧ (∃ q, q ≤ T ∧ M' 14 i = nI q) ∧ (B' 19 i = 0 ∨ B' 19 i = 1)
          rw [b15, b16, b17, b18, b19, m11, m12, m13, m14]
          by_cases e : i = kc
          · subst e
            simp only [upd_eq]
            exact ⟨trivial, trivial, trivial, trivial, trivial, ⟨s, hs, rfl⟩, ⟨T, Nat.le_refl T, rfl⟩, Or.inr trivial⟩
          · simp only [upd_ne _ _ e]
            obtain ⟨d1, d2, d3, d4, d5, d6, d7, d8⟩ := r6.1 i (by omega)
            exact ⟨d1, d2, d3, d4, trivial, d6, d7, d8⟩
        · have h1 : B' 19 i = 1 := h1
          have h2 : B' 19 j = 1 := h2
          have h3 : M' 11 i = M' 11 j := h3
          show M' 12 i ≠ M' 12 j
          rw [b19] at h1 h2
          rw [m11] at h3
          rw [m12]
          rw [upd_ne _ _ (show i ≠ kc by omega)] at h1 h3 ⊢
          by_cases e : j = kc
          · subst e
            rw [upd_eq] at h3 ⊢
            intro q
            exact hnoM i (by omega) (by omega) ⟨by rw [own i (by omega) h3, h1]; decide, h3, q⟩
          · rw [upd_ne _ _ e] at h2 h3 ⊢
            exact r6.2 i j hij (by omega) h1 h2 h3
      · intro s' hs'
        have e1 : ∀ k, stM M' 15 (B' 19) 3 k = M 3 k := fun k => by rw [stM_ne _ _ (by decide), nm 3 (by decide) (by decide)]
        have e2 : ∀ k, stM M' 15 (B' 19) 4 k = M 4 k := fun k => by rw [stM_ne _ _ (by decide), nm 4 (by decide) (by decide)]
        have e3 : ∀ k, stM M' 15 (B' 19) 1 k = M 1 k := fun k => by rw [stM_ne _ _ (by decide), nm 1 (by decide) (by decide)]
        simp only [e1, e2, e3, nb2 21 (by decide)]
        exact r7 s' hs'
      · intro o ho
        have e1 : ∀ k, stM M' 15 (B' 19) 16 k = M 16 k := fun k => by rw [stM_ne _ _ (by decide), nm2 16 (by decide)]
        have e2 : ∀ k, stM M' 15 (B' 19) 17 k = M 17 k := fun k => by rw [stM_ne _ _ (by decide), nm2 17 (by decide)]
        have e3 : ∀ k, stM M' 15 (B' 19) 18 k = M 18 k := fun k => by rw [stM_ne _ _ (by decide), nm2 18 (by decide)]
        simp only [e1, e2, e3, nb2 24 (by decide), nb2 25 (by decide), nb2 26 (by decide)]
        exact r8 o ho
      · intro i hi
        rw [m11, m14, m15, b19]
        by_cases e : i = kc
        · subst e
          simp only [upd_eq]
          exact ⟨s, T, hs, Nat.le_refl T, rfl, rfl, by rw [if_neg (by omega)]⟩
        · simp only [upd_ne _ _ e]
          exact h2 i (by omega)
theorem close_eq {B M : Mem} {T mc kc s : Nat} (h : RM B M T mc kc s) (hs : s < 6) : ∃ M' : Mem, lX9_looks_23 fu (nI s) (nI T) 0 M = some (0, M') ∧ RM B M' T mc kc (s + 1) := by
  obtain ⟨hR, h2⟩ := h
  obtain ⟨a1, a2, a3, a4, a5, a6, a7, a8, a9, a10⟩ := id hR.1
  obtain ⟨M', f1, f2, f3⟩ := looks_l (kc := kc) (s := s) (T := T) a9 fu 0 M a8 (by omega) (by unfold fu; omega)
  refine ⟨M', f1, ?_, fun i hi => ?_⟩
  · have e : stM M' 15 (B 19) = stM M 15 (B 19) := by
      funext k
      by_cases e : k = 15
      · subst e; rw [stM_eq, stM_eq]
      · rw [stM_ne _ _ e, stM_ne _ _ e, f2 k e]
    rw [e]
    exact hR
  · obtain ⟨v, q, hv, hq, ev, eq, e15⟩ := h2 i hi
    refine ⟨v, q, hv, hq, by rw [f2 11 (by decide)]; exact ev, by rw [f2 14 (by decide)]; exact eq, ?_⟩
    rw [f3 i, ev, eq, e15]
    have hlt : (nI T < nI q + 6) ↔ T < q + 6 := by
      rw [show nI q + 6 = nI (q + 6) from nI_add q 6, nI_ltI (by omega) (by omega)]
    by_cases c1 : v = s
    · subst c1
      by_cases c2 : q + 6 ≤ T
      · rw [if_pos ⟨by omega, hi, rfl, fun z => by have := hlt.mp z; omega⟩, if_pos ⟨by omega, c2⟩]
      · rw [if_neg (fun z => z.2.2.2 (hlt.mpr (by omega))), if_neg (by omega), if_neg (by omega)]
    · rw [if_neg (fun z => c1 ((nI_eq (by omega) (by omega)).mp z.2.2.1))]
      by_cases c2 : v < s ∧ q + 6 ≤ T
      · rw [if_pos c2, if_pos (by omega)]
      · rw [if_neg c2, if_neg (by omega)]
theorem svc_step {B M : Mem} {T mc kc s : Nat} (h : RM B M T mc kc s) (hs : s < 6) : ∃ (kc' : Nat) (B' M' : Mem), (∀ K, gX8_endHour_10 K (nI T) (nI s) B = K (nI T) (nI s + 1) B') ∧ fX9_looks (nI s) (nI T) M = some (0, M') ∧ RM B' M' T mc kc' (s + 1) := by
  obtain ⟨cB, cM0, cd⟩ := h.1.C
  obtain ⟨a1, a2, a3, a4, a5, a6, a7, a8, a9, a10⟩ := id h.1.1
  have cM : CMv M _ T mc := cM0.of (M' := M) rfl rfl rfl rfl rfl rfl rfl
  obtain ⟨r, B1, M1, j1, j2, hr, k1, k2, k3⟩ := jump_eq cB cM cd a10 hs (Nat.le_refl T)
  have h1 : RM B1 M1 T mc kc s := h.scr k1 k2 k3
  have hg : ¬ (6 : Int32) ≤ nI s := nI_ge (b := 6) hs (by decide)
  rcases hr with rfl | rfl
  · obtain ⟨M2, l1, l2⟩ := close_eq h1 hs
    refine ⟨kc, B1, M2, fun K => ?_, ?_, l2⟩
    · unfold gX8_endHour_10 gX8_endHour_43
      rw [if_neg hg, j1, obi_s, i00]
    · unfold fX9_looks gX9_looks_21
      rw [j2, obi_s, i00]
      exact l1
  · obtain ⟨b1, b2, b3, b4, b5, b6, b7, b8, b9, b10⟩ := id h1.1.1
    obtain ⟨v, v1, v2⟩ := cause_v (s := s) (B := B1) (M := M1) b4 b5 b6 b3 h1.1.2.1
    obtain ⟨kc', B2, M2, q1, q2, q3⟩ := raise_eq h1 hs v
    obtain ⟨M3, l1, l2⟩ := close_eq q3 hs
    refine ⟨kc', B2, M3, fun K => ?_, ?_, l2⟩
    · unfold gX8_endHour_10 gX8_endHour_43
      rw [if_neg hg, j1, obi_s, i10, v1, obi_s, q1, obi_s]
    · unfold fX9_looks gX9_looks_21
      rw [j2, obi_s, i10, v2, obi_s, q2, obi_s]
      exact l1
def eEH (x1 : Int32) (B : Mem) : Res := obi (fX2_closeStale x1 B) (fun r_54 M_54 => obi (fX3_endHour M_54) (fun r_61 M_61 => some (0, M_61)))
theorem hour_l {T mc : Nat} (K : Int32 → Int32 → Mem → Res) (x1 x2 : Int32) : ∀ (n s kc : Nat) (B M : Mem), RM B M T mc kc s → s ≤ 6 → 6 - s < n → ∃ (kc' : Nat) (B' M' : Mem), lX8_endHour_10 n (nI T) (nI s) B = eEH (nI T) B' ∧ lX9_hours_33 K n x1 x2 (nI s) M = K x1 (x2 + 1) (upM M' 0 0 (nI (T + 1))) ∧ RM B' M' T mc kc' 6 := by
  intro n
  induction n with
  | zero => intro s kc B M h h1 h2; omega
  | succ n ih =>
    intro s kc B M h h1 h2
    have hM0 : M 0 0 = nI T := h.1.1.2.1
    by_cases e : s = 6
    · subst e
      refine ⟨kc, B, M, ?_, ?_, h⟩
      · show gX8_endHour_10 (lX8_endHour_10 n) (nI T) (nI 6) B = _
        unfold gX8_endHour_10
        rw [if_pos (show (6 : Int32) ≤ nI 6 by decide)]
        rfl
      · show gX9_hours_33 K (lX9_hours_33 K n) x1 x2 (nI 6) M = _
        unfold gX9_hours_33
        rw [if_pos (show (6 : Int32) ≤ nI 6 by decide), hM0, nI_1]
    · have hs : s < 6 := by omega
      obtain ⟨kc1, B1, M1, s1, s2, s3⟩ := svc_step h hs
      obtain ⟨kc', B', M', a, b, c⟩ := ih (s + 1) kc1 B1 M1 s3 (by omega) (by omega)
      refine ⟨kc', B', M', ?_, ?_, c⟩
      · show gX8_endHour_10 (lX8_endHour_10 n) (nI T) (nI s) B = _
        rw [s1, nI_1]
        exact a
      · show gX9_hours_33 K (lX9_hours_33 K n) x1 x2 (nI s) M = _
        unfold gX9_hours_33
        rw [if_neg (show ¬ (6 : Int32) ≤ nI s from nI_ge (b := 6) hs (by decide)), hM0, s2, obi_s, nI_1]
        exact b
theorem hour_end {B M : Mem} {T mc kc : Nat} (h : RM B M T mc kc 6) (hT1 : T + 1 < 2000) : ∃ B' : Mem, eEH (nI T) B = some (0, B') ∧ RR B' (upM M 0 0 (nI (T + 1))) (T + 1) mc kc := by
  obtain ⟨cB, -, -⟩ := h.1.C
  obtain ⟨⟨r1, r2, r3, r4, r5, r6, r7, r8⟩, h2⟩ := h
  obtain ⟨a1, a2, a3, a4, a5, a6, a7, a8, a9, a10⟩ := id r1
  obtain ⟨B1, f1, f2, f3⟩ := stale_l (kc := kc) (T := T) a9 fu 0 B a7 (by omega) (by unfold fu; omega)
  obtain ⟨B2, g1, g2, g3, g4, g5⟩ := endLed_l a3 fu 0 B1 (by rw [f2 1 (by decide)]; exact a1) (by omega) (by unfold fu; omega)
  have nb : ∀ k, k ≠ 1 → k ≠ 2 → k ≠ 4 → k ≠ 19 → B2 k = B k := fun k h1 h2 h3 h4 => by rw [g2 k h1 h2 h3, f2 k h4]
  have m15 : ∀ i, i < kc → B2 19 i = M 15 i := by
    intro i hi
    obtain ⟨v, q, hv, hq, ev, eq, e15⟩ := h2 i hi
    rw [g2 19 (by decide) (by decide) (by decide), f3 i, (show B 18 i = M 14 i from (r6.1 i hi).2.2.2.1), eq, e15, pk_sub hq]
    by_cases c : q + 6 ≤ T
    · rw [if_pos ⟨by omega, hi, fun z => by have := (nI_ltI (b := 6) (by omega) (by decide)).mp z; omega⟩, if_pos ⟨hv, c⟩]
    · rw [if_neg (fun z => z.2.2 (nI_lt (b := 6) (by omega) (by decide))), if_neg (fun z => c z.2)]
  refine ⟨B2, ?_, ⟨?_, ?_, ?_, ?_, ?_, ?_, ?_, ?_⟩⟩
  · unfold eEH fX2_closeStale fX3_endHour
    rw [show lX2_closeStale_2 fu (nI T) (0 : Int32) B = some (0, B1) from f1, obi_s, show lX3_endHour_2 fu (0 : Int32) B1 = some (0, B2) from g1, obi_s]
  · refine ⟨g3, by rw [upM_eq, upd_eq], hT1, by rw [nb 5 (by decide) (by decide) (by decide) (by decide)]; exact a4, a5, a6, by rw [nb 14 (by decide) (by decide) (by decide) (by decide)]; exact a7, a8, a9, ?_⟩
    rw [nb 0 (by decide) (by decide) (by decide) (by decide)]
    exact a10
  · intro i hi
    rw [nb 6 (by decide) (by decide) (by decide) (by decide), nb 7 (by decide) (by decide) (by decide) (by decide), nb 8 (by decide) (by decide) (by decide) (by decide), nb 9 (by decide) (by decide) (by decide) (by decide)]
    obtain ⟨d1, d2, d3, d4, d5, d6, ⟨b, hb, eb⟩, d8⟩ := r2 i hi
    refine ⟨d1, d2, d3, d4, d5, d6, ⟨b, by omega, eb⟩, ?_⟩
    rcases d8 with d | ⟨q, hq, eq⟩
    · exact Or.inl d
    · exact Or.inr ⟨q, by omega, eq⟩
  · exact R3_c r3 (by rw [nb 5 (by decide) (by decide) (by decide) (by decide)]) (nb 3 (by decide) (by decide) (by decide) (by decide)) rfl rfl rfl
  · intro s hs
    obtain ⟨d1, d2⟩ := r4 s hs
    refine ⟨?_, fun k hk => ⟨(d2 k hk).1, fun hlt => (d2 k hk).2 (by omega)⟩⟩
    rw [g4 s hs, if_pos (by omega)]
    exact ((d2 (T + 1) hT1).2 (by omega)).symm
  · intro s k hs hk
    rw [g5 s k hs (by omega), costs_congr (M := stM M 15 (B 19)) (M' := upM M 0 0 (nI (T + 1))) (s := s) (h := k) mc rfl (fun i _ => ⟨rfl, rfl, rfl, Or.inl rfl⟩), f2 3 (by decide), f2 4 (by decide), f2 2 (by decide)]
    by_cases e : k = T
    · subst e
      rw [if_pos ⟨by omega, rfl⟩]
      exact cB.2.2.1 s hs
    · rw [if_neg (fun z => e z.2)]
      exact r5 s k hs (by omega)
  · refine ⟨fun i hi => ?_, fun i j hij hj h3 h4 h5 => ?_⟩
    · obtain ⟨d1, d2, d3, d4, d5, d6, ⟨q, hq, eq⟩, d8⟩ := r6.1 i hi
      rw [nb 15 (by decide) (by decide) (by decide) (by decide), nb 16 (by decide) (by decide) (by decide) (by decide), nb 17 (by decide) (by decide) (by decide) (by decide), nb 18 (by decide) (by decide) (by decide) (by decide), m15 i hi]
      refine ⟨d1, d2, d3, d4, rfl, d6, ⟨q, by omega, eq⟩, ?_⟩
      obtain ⟨v, q', hv, hq', ev, eq', e15⟩ := h2 i hi
      show M 15 i = 0 ∨ M 15 i = 1
      rw [e15]
      by_cases c : v < 6 ∧ q' + 6 ≤ T
      · rw [if_pos c]; exact Or.inl rfl
      · rw [if_neg c]; exact d8
    · have up : ∀ i, i < kc → M 15 i = 1 → B 19 i = 1 := by
        intro i hi hone
        obtain ⟨v, q', hv, hq', ev, eq', e15⟩ := h2 i hi
        rw [e15] at hone
        by_cases c : v < 6 ∧ q' + 6 ≤ T
        · rw [if_pos c] at hone
          exact absurd hone (by decide)
        · rw [if_neg c] at hone
          exact hone
      exact r6.2 i j hij hj (up i (by omega) h3) (up j hj h4) h5
  · intro s hs
    rw [nb 21 (by decide) (by decide) (by decide) (by decide)]
    exact r7 s hs
  · intro o ho
    rw [nb 24 (by decide) (by decide) (by decide) (by decide), nb 25 (by decide) (by decide) (by decide) (by decide), nb 26 (by decide) (by decide) (by decide) (by decide)]
    exact r8 o ho
theorem RM_0 {B M : Mem} {T mc kc : Nat} (h : RR B M T mc kc) : RM B M T mc kc 0 := by
  obtain ⟨r1, r2, r3, r4, r5, r6, r7, r8⟩ := h
  refine ⟨⟨r1, r2, R3_c r3 rfl rfl rfl rfl rfl, r4, R5_c r5 rfl rfl rfl rfl rfl rfl, ⟨fun i hi => ?_, fun i j hij hj h1 h2 h3 => ?_⟩, r7, r8⟩, fun i hi => ?_⟩
  · obtain ⟨d1, d2, d3, d4, d5, d6, d7, d8⟩ := r6.1 i hi
    refine ⟨d1, d2, d3, d4, rfl, d6, d7, ?_⟩
    show B 19 i = 0 ∨ B 19 i = 1
    rw [d5]
    exact d8
  · have h1 : B 19 i = 1 := h1
    have h2 : B 19 j = 1 := h2
    rw [(r6.1 i (by omega)).2.2.2.2.1] at h1
    rw [(r6.1 j hj).2.2.2.2.1] at h2
    exact r6.2 i j hij hj h1 h2 h3
  · obtain ⟨d1, d2, d3, d4, d5, ⟨v, hv, ev⟩, ⟨q, hq, eq⟩, d8⟩ := r6.1 i hi
    exact ⟨v, q, hv, hq, ev, eq, by rw [if_neg (by omega), d5]⟩
theorem hours_l {N : Nat} (hN : N ≤ 48) {mc : Nat} : ∀ (n i T kc : Nat) (B M : Mem), RR B M T mc kc → i ≤ N → N - i < n → T + (N - i) < 2000 → ∃ (r : Int32) (B' M' : Mem), lX8_hours_30 n (nI N) (nI i) B = some (r, B') ∧ lX9_hours_26 n (nI N) (nI i) M = some (r, M') ∧ Rel B' M' := by
  intro n
  induction n with
  | zero => intro i T kc B M h h1 h2; omega
  | succ n ih =>
    intro i T kc B M h h1 h2 h3
    show ∃ (r : Int32) (B' M' : Mem), gX8_hours_30 (lX8_hours_30 n) (nI N) (nI i) B = some (r, B') ∧ gX9_hours_26 (lX9_hours_26 n) (nI N) (nI i) M = some (r, M') ∧ Rel B' M'
    unfold gX8_hours_30 gX9_hours_26 fX3_now
    by_cases e : i = N
    · subst e
      rw [if_pos (nI_le (Nat.le_refl i) (by omega)), if_pos (nI_le (Nat.le_refl i) (by omega)), obi_s, h.1.1, h.1.2.1]
      exact ⟨_, B, M, rfl, rfl, T, mc, kc, h⟩
    · have g := nI_ge (show i < N by omega) (show N < 2 ^ 31 by omega)
      rw [if_neg g, if_neg g]
      obtain ⟨kc', B1, M1, l1, l2, l3⟩ := hour_l (lX9_hours_26 n) (nI N) (nI i) fu 0 kc B M (RM_0 h) (by omega) (by unfold fu; omega)
      obtain ⟨B2, e1, e2⟩ := hour_end l3 (by omega)
      have hE : fX8_endHour B = some (0, B2) := by
        unfold fX8_endHour fX3_now
        rw [obi_s, h.1.1]
        exact l1.trans e1
      rw [hE, obi_s, show lX9_hours_33 (lX9_hours_26 n) fu (nI N) (nI i) (0 : Int32) M = _ from l2, nI_1]
      exact ih (i + 1) (T + 1) kc' B2 _ e2 (by omega) (by omega) (by omega)
theorem op_hours : Op1 Rel fX8_hours fX9_hours := by
  rintro B M ⟨T, mc, kc, hR⟩ x
  have hRel : Rel B M := ⟨T, mc, kc, hR⟩
  have hT : T < 2000 := hR.1.2.2.1
  unfold fX8_hours fX9_hours fX3_now
  simp only [isIn_v, obi_s]
  by_cases c0 : x < 1 ∨ 48 < x
  · simp only [if_pos c0, i00]
    by_cases c1 : x < 1
    · rw [if_pos c1]
      exact ⟨_, B, M, rfl, rfl, hRel⟩
    · rw [if_neg c1, if_pos (c0.resolve_left c1)]
      exact ⟨_, B, M, rfl, rfl, hRel⟩
  · have c1 : ¬ x < 1 := fun q => c0 (Or.inl q)
    have c2 : ¬ 48 < x := fun q => c0 (Or.inr q)
    simp only [if_neg c0, i10, if_neg c1, if_neg c2]
    obtain ⟨N, hN, rfl⟩ := nI_of2 (M := 48) (n := 48) rfl (show ¬ x < 0 from fun h => c1 (by rw [lt_i] at h ⊢; have : (0 : Int32).toInt = 0 := rfl; have : (1 : Int32).toInt = 1 := rfl; omega)) (show x ≤ 48 by rw [le_i]; rw [lt_i] at c2; omega)
    rw [hR.1.1, hR.1.2.1, nI_add, show (1999 : Int32) - nI N = nI (1999 - N) from pk_sub (a := 1999) (by omega)]
    by_cases c3 : T + N < 2000
    · rw [if_pos (show nI (T + N) < 2000 from nI_lt (b := 2000) c3 (by decide)), if_pos (nI_le (show T ≤ 1999 - N by omega) (by omega))]
      exact hours_l hN fu 0 T kc B M hR (by omega) (by unfold fu; omega) (by omega)
    · rw [if_neg (show ¬ nI (T + N) < 2000 from fun q => c3 ((nI_ltI (b := 2000) (by omega) (by decide)).mp q)), if_neg (fun q => c3 (by have := (nI_leI (by omega) (by omega)).mp q; omega))]
      exact ⟨_, B, M, rfl, rfl, hRel⟩

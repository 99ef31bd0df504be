def ab (e x : Int32) : Int32 := if 0 ≤ x - e then x - e else 0 - (x - e)
def am (e x : Int32) : Int32 := if x ≤ e then e - x else x - e
theorem ab_am {a b : Nat} (ha : a ≤ 139959) (hb : b ≤ 139959) : am (nI b) (nI a) = ab (nI b) (nI a) := by
  unfold ab am
  have e1 : (nI a - nI b).toInt = (a : Int) - b := pk_sub_toInt (by omega) (by omega)
  by_cases c : a ≤ b
  · rw [if_pos (nI_le c (by omega))]
    by_cases c1 : a = b
    · subst c1
      rw [Int32.sub_self, if_pos (Int32.le_refl _)]
    · rw [if_neg (by rw [le_i, e1]; have : (0 : Int32).toInt = 0 := rfl; omega)]
      grind
  · rw [if_neg (fun q => c ((nI_leI (by omega) (by omega)).mp q)), if_pos (by rw [le_i, e1]; have : (0 : Int32).toInt = 0 := rfl; omega)]
theorem i24r (a : Nat) : nI a * 24 = nI (24 * a) := by rw [show (24 : Int32) = nI 24 from rfl, pk_mul, Nat.mul_comm]
theorem i24l (a : Nat) : 24 * nI a = nI (24 * a) := by rw [show (24 : Int32) = nI 24 from rfl, pk_mul]
theorem gatB_l {C : Nat → Nat → Int32} {T s h : Nat} (hs : s < 6) (hh : h ≤ T) : ∀ (n d : Nat) (M : Mem), CBv M C T → 1 ≤ d → d ≤ 8 → 8 - d < n → ∃ M' : Mem, lX5_gather_5 n (nI s) (nI h) (nI (min (d - 1) (h / 24))) (nI d) M = some (nI (min 7 (h / 24)), M') ∧ (∀ k, k ≠ 11 → M' k = M k) ∧ ∀ j, j < min 7 (h / 24) → M' 11 j = if j < min (d - 1) (h / 24) then M 11 j else C s (h - 24 * (j + 1)) := by
  intro n
  induction n with
  | zero => intro d M cM h1 h2 h3; omega
  | succ n ih =>
    intro d M cM h1 h2 h3
    have hT := cM.2.1
    show ∃ M' : Mem, gX5_gather_5 (lX5_gather_5 n) (nI s) (nI h) (nI (min (d - 1) (h / 24))) (nI d) M = _ ∧ _
    unfold gX5_gather_5 gX5_gather_45
    by_cases e : d = 8
    · subst e
      rw [if_pos (show (7 : Int32) < nI 8 by decide)]
      exact ⟨M, rfl, fun _ _ => rfl, fun j hj => by rw [if_pos hj]⟩
    · rw [if_neg (show ¬ (7 : Int32) < nI d from nI_nlt (b := d) (a := 7) (by omega) (by decide)), i24r]
      by_cases c : 24 * d ≤ h
      · have q1 : min (d - 1) (h / 24) = d - 1 := by omega
        rw [pk_sub c, if_neg (nI_pos (by omega)), costB cM hs (by omega), obi_s, q1, if_neg (gd (show d - 1 < 7 by omega) (by decide)), nI_clamp (by omega), nI_1, nI_1, show d - 1 + 1 = d by omega]
        obtain ⟨M', a, b, c2⟩ := ih (d + 1) (upM M 11 (d - 1) (C s (h - 24 * d))) (cM.of rfl rfl rfl rfl) (by omega) (by omega) (by omega)
        rw [show min (d + 1 - 1) (h / 24) = d by omega] at a c2
        refine ⟨M', a, fun k hk => by rw [b k hk, upM_ne _ _ _ hk], fun j hj => ?_⟩
        rw [c2 j hj, upM_eq]
        by_cases e1 : j = d - 1
        · subst e1
          rw [if_pos (by omega), upd_eq, if_neg (by omega), show d - 1 + 1 = d by omega]
        · rw [upd_ne _ _ e1]
          by_cases e2 : j < d - 1
          · rw [if_pos e2, if_pos (by omega)]
          · rw [if_neg e2, if_neg (by omega)]
      · rw [if_pos (pk_sneg (by omega) (by omega)), nI_1]
        obtain ⟨M', a, b, c2⟩ := ih (d + 1) M cM (by omega) (by omega) (by omega)
        rw [show min (d + 1 - 1) (h / 24) = min (d - 1) (h / 24) by omega] at a c2
        exact ⟨M', a, b, c2⟩
def eS (x1 x2 : Int32) (N : Nat) (M : Mem) : Res := (if (3 : Int32) ≤ nI N then obi (fX9_median (nI N) M) (fun r_74 M_74 => lX9_hasSeason_83 fu x1 x2 (nI N) (0 : Int32) (upM M_74 0 14 r_74)) else some ((0 : Int32), M))
theorem gatM_l {C : Nat → Nat → Int32} {T mc s h : Nat} (hs : s < 6) (hh : h ≤ T) : ∀ (n d : Nat) (M : Mem), CMv M C T mc → 1 ≤ d → d ≤ 8 → 8 - d < n → ∃ M' : Mem, lX9_hasSeason_5 n (nI s) (nI h) (nI (min (d - 1) (h / 24))) (nI d) M = eS (nI s) (nI h) (min 7 (h / 24)) M' ∧ (∀ k, k ≠ 9 → k ≠ 10 → M' k = M k) ∧ (∀ j, j < min 7 (h / 24) → M' 9 j = if j < min (d - 1) (h / 24) then M 9 j else C s (h - 24 * (j + 1))) ∧ ∀ j, j < min 7 (h / 24) → M' 10 j = if j < min (d - 1) (h / 24) then M 10 j else C s (h - 24 * (j + 1)) := by
  intro n
  induction n with
  | zero => intro d M cM h1 h2 h3; omega
  | succ n ih =>
    intro d M cM h1 h2 h3
    have hT := cM.2.1
    show ∃ M' : Mem, gX9_hasSeason_5 (lX9_hasSeason_5 n) (nI s) (nI h) (nI (min (d - 1) (h / 24))) (nI d) M = _ ∧ _
    unfold gX9_hasSeason_5 gX9_hasSeason_58
    by_cases e : d = 8
    · subst e
      rw [if_pos (show (8 : Int32) ≤ nI 8 by decide)]
      exact ⟨M, rfl, fun _ _ _ => rfl, fun j hj => by rw [if_pos hj], fun j hj => by rw [if_pos hj]⟩
    · rw [if_neg (show ¬ (8 : Int32) ≤ nI d from nI_ge (b := 8) (by omega) (by decide)), i24l]
      by_cases c : 24 * d ≤ h
      · have q1 : min (d - 1) (h / 24) = d - 1 := by omega
        rw [pk_sub c, if_pos (show (0 : Int32) ≤ nI (h - 24 * d) from nI_pos' (by omega)), costM cM hs (by omega), obi_s, q1, if_neg (gd (show d - 1 < 7 by omega) (by decide)), nI_clamp (by omega), nI_1, nI_1, show d - 1 + 1 = d by omega, upM_eq, upd_eq]
        obtain ⟨M', a, b, c2, c3⟩ := ih (d + 1) (upM (upM M 10 (d - 1) (C s (h - 24 * d))) 9 (d - 1) (C s (h - 24 * d))) (cM.of rfl rfl rfl rfl rfl rfl rfl) (by omega) (by omega) (by omega)
        rw [show min (d + 1 - 1) (h / 24) = d by omega] at a c2 c3
        refine ⟨M', a, fun k hk hk2 => by rw [b k hk hk2, upM_ne _ _ _ hk, upM_ne _ _ _ hk2], fun j hj => ?_, fun j hj => ?_⟩
        · rw [c2 j hj, upM_eq, upM_ne _ _ _ (show (9 : Nat) ≠ 10 by decide)]
          by_cases e1 : j = d - 1
          · subst e1
            rw [if_pos (by omega), upd_eq, if_neg (by omega), show d - 1 + 1 = d by omega]
          · rw [upd_ne _ _ e1]
            by_cases e2 : j < d - 1
            · rw [if_pos e2, if_pos (by omega)]
            · rw [if_neg e2, if_neg (by omega)]
        · rw [c3 j hj, upM_ne _ _ _ (show (10 : Nat) ≠ 9 by decide), upM_eq]
          by_cases e1 : j = d - 1
          · subst e1
            rw [if_pos (by omega), upd_eq, if_neg (by omega), show d - 1 + 1 = d by omega]
          · rw [upd_ne _ _ e1]
            by_cases e2 : j < d - 1
            · rw [if_pos e2, if_pos (by omega)]
            · rw [if_neg e2, if_neg (by omega)]
      · have hneg : ¬ (0 : Int32) ≤ nI h - nI (24 * d) := fun q => by
          have := pk_sneg (a := h) (b := 24 * d) (by omega) (by omega)
          rw [lt_i] at this
          rw [le_i] at q
          omega
        rw [if_neg hneg, nI_1]
        obtain ⟨M', a, b, c2⟩ := ih (d + 1) M cM (by omega) (by omega) (by omega)
        rw [show min (d + 1 - 1) (h / 24) = min (d - 1) (h / 24) by omega] at a c2
        exact ⟨M', a, b, c2⟩
theorem absB_l {N : Nat} (hN : N ≤ 7) (x1 x2 e : Int32) : ∀ (n j : Nat) (M : Mem), M 10 2 = e → j ≤ N → N - j < n → ∃ M' : Mem, lX5_find_26 n x1 x2 (nI N) (nI j) M = obi (fX5_median (nI N) M') (fun r_63 M_63 => some ((1 : Int32), (upM M_63 10 3 r_63))) ∧ (∀ k, k ≠ 11 → M' k = M k) ∧ ∀ i, i < N → M' 11 i = if i < j then M 11 i else ab e (M 11 i) := by
  intro n
  induction n with
  | zero => intro j M he h1 h2; omega
  | succ n ih =>
    intro j M he h1 h2
    show ∃ M' : Mem, gX5_find_26 (lX5_find_26 n) x1 x2 (nI N) (nI j) M = _ ∧ _
    unfold gX5_find_26
    by_cases q : j = N
    · subst q
      rw [if_pos (nI_le (Nat.le_refl j) (by omega))]
      exact ⟨M, rfl, fun _ _ => rfl, fun i hi => by rw [if_pos hi]⟩
    · rw [if_neg (nI_ge (show j < N by omega) (by omega)), if_neg (gd (show j < 7 by omega) (by decide)), nI_clamp (by omega), nI_1, he]
      obtain ⟨M', a, b, c⟩ := ih (j + 1) (upM M 11 j (ab e (M 11 j))) (by rw [upM_ne _ _ _ (by decide)]; exact he) (by omega) (by omega)
      refine ⟨M', a, fun k hk => by rw [b k hk, upM_ne _ _ _ hk], fun i hi => ?_⟩
      rw [c i hi, upM_eq]
      by_cases e1 : i = j
      · subst e1
        rw [if_pos (by omega), upd_eq, if_neg (by omega)]
      · rw [upd_ne _ _ e1]
        by_cases e2 : i < j
        · rw [if_pos e2, if_pos (by omega)]
        · rw [if_neg e2, if_neg (by omega)]
theorem absM_l {N : Nat} (hN : N ≤ 7) (x1 x2 e : Int32) : ∀ (n j : Nat) (M : Mem), M 0 14 = e → j ≤ N → N - j < n → ∃ M' : Mem, lX9_hasSeason_83 n x1 x2 (nI N) (nI j) M = obi (fX9_median (nI N) M') (fun r_146 M_146 => some ((1 : Int32), (upM M_146 0 15 r_146))) ∧ (∀ k, k ≠ 9 → M' k = M k) ∧ ∀ i, i < N → M' 9 i = if i < j then M 9 i else am e (M 10 i) := by
  intro n
  induction n with
  | zero => intro j M he h1 h2; omega
  | succ n ih =>
    intro j M he h1 h2
    show ∃ M' : Mem, gX9_hasSeason_83 (lX9_hasSeason_83 n) x1 x2 (nI N) (nI j) M = _ ∧ _
    unfold gX9_hasSeason_83 gX9_hasSeason_136
    by_cases q : j = N
    · subst q
      rw [if_pos (nI_le (Nat.le_refl j) (by omega))]
      exact ⟨M, rfl, fun _ _ => rfl, fun i hi => by rw [if_pos hi]⟩
    · rw [if_neg (nI_ge (show j < N by omega) (by omega)), if_neg (gd (show j < 7 by omega) (by decide)), if_neg (gd (show j < 7 by omega) (by decide)), if_neg (gd (show j < 7 by omega) (by decide)), nI_clamp (by omega), nI_1, he]
      obtain ⟨M', a, b, c⟩ := ih (j + 1) (upM M 9 j (am e (M 10 j))) (by rw [upM_ne _ _ _ (by decide)]; exact he) (by omega) (by omega)
      refine ⟨M', ?_, fun k hk => by rw [b k hk, upM_ne _ _ _ hk], fun i hi => ?_⟩
      · rw [← a]
        unfold am
        by_cases c1 : M 10 j ≤ e
        · rw [if_pos c1, if_pos c1]
        · rw [if_neg c1, if_neg c1]
      · rw [c i hi, upM_eq, upM_ne _ _ _ (show (10 : Nat) ≠ 9 by decide)]
        by_cases e1 : i = j
        · subst e1
          rw [if_pos (by omega), upd_eq, if_neg (by omega)]
        · rw [upd_ne _ _ e1]
          by_cases e2 : i < j
          · rw [if_pos e2, if_pos (by omega)]
          · rw [if_neg e2, if_neg (by omega)]
theorem season_eq {B M : Mem} {C : Nat → Nat → Int32} {T mc s h : Nat} (cB : CBv B C T) (cM : CMv M C T mc) (cd : Cbd C T) (hs : s < 6) (hh : h ≤ T) : ∃ (r : Int32) (B' M' : Mem), fX5_find (nI s) (nI h) B = some (r, B') ∧ fX9_hasSeason (nI s) (nI h) M = some (r, M') ∧ (r = 0 ∨ (r = 1 ∧ B' 10 2 = M' 0 14 ∧ B' 10 3 = M' 0 15)) ∧ (∀ k, k ≠ 10 → k ≠ 11 → B' k = B k) ∧ (∀ k, k ≠ 0 → k ≠ 9 → k ≠ 10 → M' k = M k) ∧ ∀ j, j ≠ 14 → j ≠ 15 → M' 0 j = M 0 j := by
  have hT := cB.2.1
  obtain ⟨B1, b1, b2, b3⟩ := gatB_l hs hh fu 1 B cB (by omega) (by omega) (by unfold fu; omega)
  obtain ⟨M1, m1, m2, m3, m4⟩ := gatM_l hs hh fu 1 M cM (by omega) (by omega) (by unfold fu; omega)
  have q0 : min (1 - 1) (h / 24) = 0 := by omega
  rw [q0] at b1 b3 m1 m3 m4
  have b3' : ∀ j, j < min 7 (h / 24) → B1 11 j = C s (h - 24 * (j + 1)) := fun j hj => by rw [b3 j hj, if_neg (by omega)]
  have m3' : ∀ j, j < min 7 (h / 24) → M1 9 j = C s (h - 24 * (j + 1)) := fun j hj => by rw [m3 j hj, if_neg (by omega)]
  have m4' : ∀ j, j < min 7 (h / 24) → M1 10 j = C s (h - 24 * (j + 1)) := fun j hj => by rw [m4 j hj, if_neg (by omega)]
  have hcb : ∀ j, j < min 7 (h / 24) → ∃ c, c ≤ 139959 ∧ C s (h - 24 * (j + 1)) = nI c := fun j hj => cd s _ hs (by omega)
  generalize hN : min 7 (h / 24) = N at *
  have hN7 : N ≤ 7 := by omega
  unfold fX5_find fX5_gather fX9_hasSeason
  rw [show lX5_gather_5 fu (nI s) (nI h) (0 : Int32) (1 : Int32) B = some (nI N, B1) from b1, show lX9_hasSeason_5 fu (nI s) (nI h) (0 : Int32) (1 : Int32) M = eS (nI s) (nI h) N M1 from m1, obi_s]
  unfold eS
  by_cases c3 : 3 ≤ N
  · have c3' : (3 : Int32) ≤ nI N := nI_le (a := 3) c3 (by omega)
    rw [if_pos c3', if_pos c3', medB (by omega) hN7, medM (by omega) hN7, obi_s, obi_s]
    have sB := srt_ok (N - 1) 1 (B1 11) N (fun i j h1 h2 => by rw [show i = 0 by omega, show j = 0 by omega]; exact Int32.le_refl _) (by omega)
    have sM := srt_ok (N - 1) 1 (M1 9) N (fun i j h1 h2 => by rw [show i = 0 by omega, show j = 0 by omega]; exact Int32.le_refl _) (by omega)
    rw [show 1 + (N - 1) = N by omega] at sB sM
    have hpe : PE (B1 11) (M1 9) N := fun P => cntP_congr N (fun i hi => by rw [b3' i hi, m3' i hi])
    have hu := sd_uniq sB.1 sM.1 (fun P => ((sB.2 P).symm.trans (hpe P)).trans (sM.2 P))
    have hmid : (N - 1) / 2 < N := by omega
    rw [hu _ hmid]
    generalize hfB : srt (B1 11) 1 (N - 1) = fB at *
    generalize hfM : srt (M1 9) 1 (N - 1) = fM at *
    generalize he : fM ((N - 1) / 2) = e at *
    have hbound : ∃ b, b ≤ 139959 ∧ e = nI b := by
      have h1 : cntP (M1 9) (fun x => decide (0 ≤ x ∧ x ≤ 139959)) N = N := cntP_all N (fun i hi => by
        obtain ⟨c, hc, ec⟩ := hcb i hi
        rw [m3' i hi, ec]
        exact decide_eq_true ⟨nI_pos' (by omega), nI_le (b := 139959) hc (by decide)⟩)
      rw [sM.2] at h1
      have h2 := of_decide_eq_true (all_cntP N h1 _ hmid)
      rw [he] at h2
      obtain ⟨b, hb, eb⟩ := nI_of2 (M := 139959) (n := 139959) rfl (show ¬ e < 0 by rw [lt_i]; have := h2.1; rw [le_i] at this; omega) h2.2
      exact ⟨b, hb, eb⟩
    obtain ⟨eb, heb, rfl⟩ := hbound
    obtain ⟨B2, d1, d2, d3⟩ := absB_l hN7 (nI s) (nI h) (nI eb) fu 0 (upM (stM B1 11 fB) 10 2 (nI eb)) (by rw [upM_eq, upd_eq]) (by omega) (by unfold fu; omega)
    obtain ⟨M2, n1, n2, n3⟩ := absM_l hN7 (nI s) (nI h) (nI eb) fu 0 (upM (stM M1 9 fM) 0 14 (nI eb)) (by rw [upM_eq, upd_eq]) (by omega) (by unfold fu; omega)
    rw [show lX5_find_26 fu (nI s) (nI h) (nI N) (0 : Int32) (upM (stM B1 11 fB) 10 2 (nI eb)) = _ from d1, show lX9_hasSeason_83 fu (nI s) (nI h) (nI N) (0 : Int32) (upM (stM M1 9 fM) 0 14 (nI eb)) = _ from n1, medB (by omega) hN7, medM (by omega) hN7, obi_s, obi_s]
    have d3' : ∀ i, i < N → B2 11 i = ab (nI eb) (fB i) := fun i hi => by rw [d3 i hi, if_neg (by omega), upM_ne _ _ _ (by decide), stM_eq]
    have n3' : ∀ i, i < N → M2 9 i = ab (nI eb) (M1 10 i) := fun i hi => by
      rw [n3 i hi, if_neg (by omega), upM_ne _ _ _ (by decide), stM_ne _ _ (by decide)]
      obtain ⟨c, hc, ec⟩ := hcb i hi
      rw [m4' i hi, ec]
      exact ab_am hc heb
    have tB := srt_ok (N - 1) 1 (B2 11) N (fun i j h1 h2 => by rw [show i = 0 by omega, show j = 0 by omega]; exact Int32.le_refl _) (by omega)
    have tM := srt_ok (N - 1) 1 (M2 9) N (fun i j h1 h2 => by rw [show i = 0 by omega, show j = 0 by omega]; exact Int32.le_refl _) (by omega)
    rw [show 1 + (N - 1) = N by omega] at tB tM
    have hpe2 : PE (B2 11) (M2 9) N := fun P => by
      rw [cntP_map (f := fB) N d3', cntP_map (f := M1 10) N n3', ← sB.2]
      exact cntP_congr N (fun i hi => by rw [b3' i hi, m4' i hi])
    have hu2 := sd_uniq tB.1 tM.1 (fun P => ((tB.2 P).symm.trans (hpe2 P)).trans (tM.2 P))
    rw [hu2 _ hmid]
    refine ⟨1, _, _, rfl, rfl, Or.inr ⟨rfl, ?_, ?_⟩, fun k h1 h2 => ?_, fun k h1 h2 h3 => ?_, fun j h1 h2 => ?_⟩
    · rw [upM_eq, upd_ne _ _ (by decide), stM_ne _ _ (by decide), d2 10 (by decide), upM_eq, upd_eq, upM_eq, upd_ne _ _ (by decide), stM_ne _ _ (by decide), n2 0 (by decide), upM_eq, upd_eq]
    · rw [upM_eq, upd_eq, upM_eq, upd_eq]
    · rw [upM_ne _ _ _ h1, stM_ne _ _ h2, d2 k h2, upM_ne _ _ _ h1, stM_ne _ _ h2, b2 k h2]
    · rw [upM_ne _ _ _ h1, stM_ne _ _ h2, n2 k h2, upM_ne _ _ _ h1, stM_ne _ _ h2, m2 k h2 h3]
    · rw [upM_eq, upd_ne _ _ h2, stM_ne _ _ (by decide), n2 0 (by decide), upM_eq, upd_ne _ _ h1, stM_ne _ _ (by decide), m2 0 (by decide) (by decide)]
  · have c3' : ¬ (3 : Int32) ≤ nI N := fun q => c3 ((nI_leI (a := 3) (by decide) (by omega)).mp q)
    rw [if_neg c3', if_neg c3']
    exact ⟨0, B1, M1, rfl, rfl, Or.inl rfl, fun k _ h => b2 k h, fun k _ h1 h2 => m2 k h1 h2, fun j _ _ => by rw [m2 0 (by decide) (by decide)]⟩

def fsu (g : Nat → Int32) (lim acc : Int32) (a : Nat) : Nat → Int32
  | 0 => -1
  | n + 1 => if acc + g a ≤ lim then fsu g lim (acc + g a) (a + 1) n else nI a
def gv (B : Mem) (C : Nat → Nat → Int32) (T : Nat) (fc : Int32) (o h : Nat) : Int32 := if T < h then fc else atv B C o h
theorem sa_add (g : Nat → Int32) : ∀ (n m a : Nat) (acc : Int32), sa g acc a (n + m) = sa g (sa g acc a n) (a + n) m
  | 0, m, a, acc => by rw [Nat.zero_add]; rfl
  | n + 1, m, a, acc => by
    rw [show n + 1 + m = (n + m) + 1 by omega, sa, sa, sa_add g n m, show a + 1 + n = a + (n + 1) by omega]
theorem sa_congr {g g' : Nat → Int32} : ∀ (n a : Nat) (acc : Int32), (∀ k, a ≤ k → k < a + n → g k = g' k) → sa g acc a n = sa g' acc a n
  | 0, _, _, _ => rfl
  | n + 1, a, acc, h => by
    rw [sa, sa, h a (by omega) (by omega)]
    exact sa_congr n (a + 1) _ (fun k h1 h2 => h k (by omega) (by omega))
theorem sa_const (c : Int32) : ∀ (n a : Nat) (acc : Int32), sa (fun _ => c) acc a n = acc + nI n * c
  | 0, a, acc => by
    show acc = acc + 0 * c
    grind
  | n + 1, a, acc => by
    rw [sa, sa_const c n (a + 1), nI_succ]
    grind
theorem total_v {B : Mem} {C : Nat → Nat → Int32} {T o f t : Nat} {fc : Int32} (hft : f ≤ t) : sa (gv B C T fc o) 0 f (t - f) = sa (atv B C o) 0 f ((if T + 1 < t then T + 1 else t) - f) + nI (t - (if f < T + 1 then T + 1 else f)) * fc := by
  have h1 : t - f = ((if T + 1 < t then T + 1 else t) - f) + (t - (if f < T + 1 then T + 1 else f)) := by
    by_cases c0 : T + 1 < t
    · rw [if_pos c0]
      by_cases c1 : f < T + 1
      · rw [if_pos c1]; omega
      · rw [if_neg c1]; omega
    · rw [if_neg c0]
      by_cases c1 : f < T + 1
      · rw [if_pos c1]; omega
      · rw [if_neg c1]; omega
  rw [h1, sa_add, sa_congr (g := gv B C T fc o) (g' := atv B C o) ((if T + 1 < t then T + 1 else t) - f) f 0 ?_, sa_congr (g := gv B C T fc o) (g' := fun _ => fc) _ _ _ ?_, sa_const]
  · intro k hk1 hk2
    unfold gv
    rw [if_pos]
    by_cases c0 : T + 1 < t
    · rw [if_pos c0] at hk1 hk2
      by_cases c1 : f < T + 1
      · rw [if_pos c1] at hk2; omega
      · rw [if_neg c1] at hk2; omega
    · rw [if_neg c0] at hk1 hk2
      by_cases c1 : f < T + 1
      · rw [if_pos c1] at hk2; omega
      · rw [if_neg c1] at hk2; omega
  · intro k hk1 hk2
    unfold gv
    rw [if_neg]
    by_cases c0 : T + 1 < t
    · rw [if_pos c0] at hk2; omega
    · rw [if_neg c0] at hk2; omega
theorem upAt_l {B M : Mem} {C : Nat → Nat → Int32} {T mc o t : Nat} {fc : Int32} (cB : CBv B C T) (cM : CMv M C T mc) (cd : Cbd C T) (r7 : R7 B M) (ho : o < 4) (ht : B 26 o = nI t) (ht2 : t ≤ 2000) : ∀ (n h : Nat) (acc : Int32), h ≤ 2000 → t - h < n → lX1_spentUpAt_10 n (nI o) fc acc (nI h) B = some (fsu (gv B C T fc o) (B 24 o) acc h (t - h), B) := by
  have hT := cB.2.1
  have hg := gd2 (show o < 4 from ho) (by decide)
  intro n
  induction n with
  | zero => intro h acc h1 h2; omega
  | succ n ih =>
    intro h acc h1 h2
    show gX1_spentUpAt_10 (lX1_spentUpAt_10 n) (nI o) fc acc (nI h) B = _
    unfold gX1_spentUpAt_10 gX1_spentUpAt_48 fX3_now
    simp only [nI_clamp (show o < 2 ^ 31 by omega), if_neg hg, obi_s, cB.1, ht]
    by_cases e : t ≤ h
    · rw [if_pos (nI_le e (by omega)), show t - h = 0 by omega]
      rfl
    · rw [if_neg (nI_ge (show h < t by omega) (by omega)), show t - h = (t - (h + 1)) + 1 by omega, fsu, nI_1]
      by_cases c : T < h
      · rw [if_pos (nI_lt c (by omega)), show gv B C T fc o h = fc from if_pos c]
        by_cases c1 : acc + fc ≤ B 24 o
        · rw [if_pos c1, if_pos c1]
          exact ih (h + 1) _ (by omega) (by omega)
        · rw [if_neg c1, if_neg c1]
      · rw [if_neg (nI_nlt (show h ≤ T by omega) (by omega)), show gv B C T fc o h = atv B C o h from if_neg c, (at_v cB cM cd r7 ho (show h ≤ T by omega)).1, obi_s]
        by_cases c1 : acc + atv B C o h ≤ B 24 o
        · rw [if_pos c1, if_pos c1]
          exact ih (h + 1) _ (by omega) (by omega)
        · rw [if_neg c1, if_neg c1]
theorem goes_l {B : Mem} {C : Nat → Nat → Int32} {T mc o t : Nat} {fc lim x2 : Int32} (cB : CBv B C T) (cd : Cbd C T) (ho : o < 4) (ht2 : t ≤ 2000) : ∀ (n h : Nat) (acc : Int32) (M : Mem), CMv M C T mc → R7 B M → M 16 o = lim → M 18 o = nI t → h ≤ 2000 → t - h < n → ∃ M' : Mem, lX9_goes_23 n (nI o) x2 fc acc (nI h) M = some (sa (gv B C T fc o) acc h (t - h), M') ∧ M' 0 24 = (if M 0 24 = -1 then fsu (gv B C T fc o) lim acc h (t - h) else M 0 24) ∧ (∀ k, k ≠ 0 → M' k = M k) ∧ ∀ j, j ≠ 24 → M' 0 j = M 0 j := by
  have hT := cB.2.1
  have hg := gd2 (show o < 4 from ho) (by decide)
  intro n
  induction n with
  | zero => intro h acc M cM r7 hl ht h1 h2; omega
  | succ n ih =>
    intro h acc M cM r7 hl ht h1 h2
    show ∃ M', gX9_goes_23 (lX9_goes_23 n) (nI o) x2 fc acc (nI h) M = _ ∧ _
    unfold gX9_goes_23 gX9_goes_56 gX9_goes_84
    simp only [nI_clamp (show o < 2 ^ 31 by omega), if_neg hg, ht, cM.1]
    by_cases e : t ≤ h
    · rw [if_pos (nI_le e (by omega)), show t - h = 0 by omega]
      refine ⟨M, rfl, ?_, fun _ _ => rfl, fun _ _ => rfl⟩
      by_cases c : M 0 24 = -1
      · rw [if_pos c, c]; rfl
      · rw [if_neg c]
    · rw [if_neg (nI_ge (show h < t by omega) (by omega)), show t - h = (t - (h + 1)) + 1 by omega, fsu, sa, show nI h + 1 = nI (h + 1) from nI_1 h]
      have key : ∀ v, gv B C T fc o h = v → ∃ M' : Mem, (if M 0 24 = -1 then (if acc + v ≤ M 16 o then lX9_goes_23 n (nI o) x2 fc (acc + v) (nI (h + 1)) M else lX9_goes_23 n (nI o) x2 fc (acc + v) (nI (h + 1)) (upM M 0 24 (nI h))) else lX9_goes_23 n (nI o) x2 fc (acc + v) (nI (h + 1)) M) = some (sa (gv B C T fc o) (acc + gv B C T fc o h) (h + 1) (t - (h + 1)), M') ∧ M' 0 24 = (if M 0 24 = -1 then (if acc + gv B C T fc o h ≤ lim then fsu (gv B C T fc o) lim (acc + gv B C T fc o h) (h + 1) (t - (h + 1)) else nI h) else M 0 24) ∧ (∀ k, k ≠ 0 → M' k = M k) ∧ ∀ j, j ≠ 24 → M' 0 j = M 0 j := by
        intro v hv
        rw [hv, hl]
        by_cases c : M 0 24 = -1
        · rw [if_pos c, if_pos c]
          by_cases c1 : acc + v ≤ lim
          · rw [if_pos c1, if_pos c1]
            obtain ⟨M', a, b, c2, d⟩ := ih (h + 1) (acc + v) M cM r7 hl ht (by omega) (by omega)
            rw [if_pos c] at b
            exact ⟨M', a, b, c2, d⟩
          · rw [if_neg c1, if_neg c1]
            obtain ⟨M', a, b, c2, d⟩ := ih (h + 1) (acc + v) (upM M 0 24 (nI h)) (cM.of rfl rfl rfl rfl rfl rfl rfl) r7 hl ht (by omega) (by omega)
            have e24 : (upM M 0 24 (nI h)) 0 24 = nI h := by rw [upM_eq, upd_eq]
            rw [e24, if_neg (nI_m1 (by omega))] at b
            exact ⟨M', a, b, fun k hk => by rw [c2 k hk, upM_ne _ _ _ hk], fun j hj => by rw [d j hj, upM_eq, upd_ne _ _ hj]⟩
        · rw [if_neg c, if_neg c]
          obtain ⟨M', a, b, c2, d⟩ := ih (h + 1) (acc + v) M cM r7 hl ht (by omega) (by omega)
          rw [if_neg c] at b
          exact ⟨M', a, b, c2, d⟩
      by_cases c : T < h
      · rw [if_pos (nI_lt c (by omega))]
        exact key fc (if_pos c)
      · rw [if_neg (nI_nlt (show h ≤ T by omega) (by omega)), (at_v cB cM cd r7 ho (show h ≤ T by omega)).2, obi_s]
        exact key (atv B C o h) (if_neg c)
theorem goes_v {B M : Mem} {C : Nat → Nat → Int32} {T mc o f t : Nat} (hi : Bool) (cB : CBv B C T) (cM : CMv M C T mc) (cd : Cbd C T) (r7 : R7 B M) (ho : o < 4) (hf : M 17 o = nI f) (ht : M 18 o = nI t) (hft : f ≤ t) (ht2 : t ≤ 2000) : ∃ M' : Mem, fX9_goes (nI o) (if hi then 1 else 0) M = some (sa (gv B C T (fcv B C T hi o) o) 0 f (t - f), M') ∧ M' 0 24 = fsu (gv B C T (fcv B C T hi o) o) (M 16 o) 0 f (t - f) ∧ (∀ k, k ≠ 0 → M' k = M k) ∧ ∀ j, j ≠ 24 → M' 0 j = M 0 j := by
  have hg := gd2 (show o < 4 from ho) (by decide)
  unfold fX9_goes fX9_foretold
  have hfc := fcM_l hi cM cd r7 ho fu 0 0 (by omega) (by unfold fu; omega)
  rw [show lX9_foretold_5 fu (nI o) (if hi = true then 1 else 0) (0 : Int32) (0 : Int32) M = some (fcv B C T hi o, M) from hfc, obi_s]
  simp only [nI_clamp (show o < 2 ^ 31 by omega), if_neg hg]
  rw [show (upM M 0 24 (-1)) 17 o = nI f from hf]
  obtain ⟨M', a, b, c, d⟩ := goes_l (x2 := if hi then 1 else 0) (fc := fcv B C T hi o) (lim := M 16 o) cB cd ho ht2 fu f 0 (upM M 0 24 (-1)) (cM.of rfl rfl rfl rfl rfl rfl rfl) r7 rfl ht (by omega) (by unfold fu; omega)
  have e24 : (upM M 0 24 (-1)) 0 24 = -1 := by rw [upM_eq, upd_eq]
  rw [e24, if_pos rfl] at b
  exact ⟨M', a, b, fun k hk => by rw [c k hk, upM_ne _ _ _ hk], fun j hj => by rw [d j hj, upM_eq, upd_ne _ _ hj]⟩
theorem spent_v {B M : Mem} {C : Nat → Nat → Int32} {T mc o f t : Nat} (cB : CBv B C T) (cM : CMv M C T mc) (cd : Cbd C T) (r7 : R7 B M) (ho : o < 4) (hf : B 25 o = nI f) (ht : B 26 o = nI t) (hft : f ≤ t) (ht2 : t ≤ 2000) : fX1_spent (nI o) B = some (sa (atv B C o) 0 f ((if T + 1 < t then T + 1 else t) - f), B) := by
  have hT := cB.2.1
  have hg := gd2 (show o < 4 from ho) (by decide)
  unfold fX1_spent fX3_now
  simp only [nI_clamp (show o < 2 ^ 31 by omega), if_neg hg, obi_s, cB.1, hf, ht]
  rw [show nI T + 1 = nI (T + 1) from nI_1 T]
  by_cases c : T + 1 < t
  · rw [if_pos (nI_lt c (by omega)), if_pos c, (over_v cB cM cd r7 ho (Nat.le_refl (T + 1)) (show f < 2 ^ 31 by omega)).1, obi_s]
  · rw [if_neg (nI_nlt (show t ≤ T + 1 by omega) (by omega)), if_neg c, (over_v cB cM cd r7 ho (show t ≤ T + 1 by omega) (show f < 2 ^ 31 by omega)).1, obi_s]
theorem atEnd_v {B M : Mem} {C : Nat → Nat → Int32} {T mc o f t : Nat} (fc : Int32) (cB : CBv B C T) (cM : CMv M C T mc) (cd : Cbd C T) (r7 : R7 B M) (ho : o < 4) (hf : B 25 o = nI f) (ht : B 26 o = nI t) (hft : f ≤ t) (ht2 : t ≤ 2000) : fX1_atEnd (nI o) fc B = some (sa (gv B C T fc o) 0 f (t - f), B) := by
  have hT := cB.2.1
  have hg := gd2 (show o < 4 from ho) (by decide)
  unfold fX1_atEnd fX3_now
  rw [obi_s, spent_v cB cM cd r7 ho hf ht hft ht2]
  simp only [nI_clamp (show o < 2 ^ 31 by omega), if_neg hg, obi_s, cB.1, hf, ht]
  rw [total_v hft, show nI T + 1 = nI (T + 1) from nI_1 T]
  have hF : (if nI f < nI (T + 1) then nI (T + 1) else nI f) = nI (if f < T + 1 then T + 1 else f) := by
    by_cases c : f < T + 1
    · rw [if_pos (nI_lt c (by omega)), if_pos c]
    · rw [if_neg (nI_nlt (show T + 1 ≤ f by omega) (by omega)), if_neg c]
  rw [hF]
  have hFb : (if f < T + 1 then T + 1 else f) ≤ 2000 := by
    by_cases c : f < T + 1
    · rw [if_pos c]; omega
    · rw [if_neg c]; omega
  generalize (if f < T + 1 then T + 1 else f) = F at *
  have hh : (if (0 : Int32) < nI t - nI F then nI t - nI F else 0) = nI (t - F) := by
    by_cases c : F < t
    · rw [pk_sub (by omega), if_pos (show (0 : Int32) < nI (t - F) from nI_lt (a := 0) (by omega) (by omega))]
    · rw [if_neg, show t - F = 0 by omega]
      · rfl
      · rw [lt_i, pk_sub_toInt (by omega) (by omega)]
        have : (0 : Int32).toInt = 0 := rfl
        omega
  rw [hh]
theorem op_budgeted : Op2 Rel fX8_budgeted fX9_budgeted := by
  rintro B M ⟨T, mc, kc, hR⟩ x1 x2
  have hRel : Rel B M := ⟨T, mc, kc, hR⟩
  obtain ⟨cB, cM, cd⟩ := hR.C
  have r7 : R7 B M := hR.2.2.2.2.2.2.1
  have r8 : R8 B M := hR.2.2.2.2.2.2.2
  have hT := cB.2.1
  rcases own x1 with ⟨o, ho, rfl, e1, e2⟩ | ⟨e1, e2⟩
  · have hg := gd2 (show o < 4 from ho) (by decide)
    obtain ⟨b24, b25, b26, f, t, hf, ht, hft, ht2⟩ := r8 o ho
    have hfB : B 25 o = nI f := b25.trans hf
    have htB : B 26 o = nI t := b26.trans ht
    obtain ⟨fl, fh⟩ := fcB cB cd r7 ho
    have hup : ∀ fc, fX1_spentUpAt (nI o) fc B = some (fsu (gv B (fun s h => costs M s h mc) T fc o) (B 24 o) 0 f (t - f), B) := by
      intro fc
      unfold fX1_spentUpAt
      simp only [nI_clamp (show o < 2 ^ 31 by omega), if_neg hg, hfB]
      exact upAt_l cB cM cd r7 ho htB ht2 fu f 0 (by omega) (by unfold fu; omega)
    have hscr : ∀ M' : Mem, (∀ k, k ≠ 0 → M' k = M k) → (∀ j, j ≠ 24 → M' 0 j = M 0 j) → Rel B M' := fun M' h1 h2 => ⟨T, mc, kc, Rel.scr hR (fun _ _ _ _ => rfl) (fun k h _ _ => h1 k h) (fun j hj => h2 j (by omega))⟩
    unfold fX8_budgeted fX9_budgeted gX9_budgeted_112 gX9_budgeted_64 gX9_budgeted_94
    simp only [e1, e2, obi_s, i10, isIn_v]
    by_cases c0 : x2 = 0
    · subst c0
      unfold fX1_sumOf
      simp only [if_neg (show ¬ ((0 : Int32) < 0 ∨ (5 : Int32) < 0) by decide), i10, i00, nI_clamp (show o < 2 ^ 31 by omega), if_neg hg, obi_s, if_pos (show (0 : Int32) = 0 from rfl)]
      exact ⟨_, B, M, rfl, by rw [b24, if_pos trivial], hRel⟩
    · by_cases c1 : x2 = 1
      · subst c1
        simp only [if_neg c0, if_neg (show ¬ ((1 : Int32) < 0 ∨ (5 : Int32) < 1) by decide), i10, if_pos (show (1 : Int32) = 1 from rfl), nI_clamp (show o < 2 ^ 31 by omega), if_neg hg, spent_v cB cM cd r7 ho hfB htB hft ht2, obi_s, hf, ht, cM.1]
        refine ⟨_, B, M, rfl, ?_, hRel⟩
        rw [show nI T + 1 = nI (T + 1) from nI_1 T]
        have hmin : ∀ z, (if nI (T + 1) ≤ nI t then obi (fX9_laidOf (nI o) z (nI (T + 1)) M) (fun r_94 M_94 => some (r_94, M_94)) else obi (fX9_laidOf (nI o) z (nI t) M) (fun r_94 M_94 => some (r_94, M_94))) = obi (fX9_laidOf (nI o) z (nI (if T + 1 < t then T + 1 else t)) M) (fun r_94 M_94 => some (r_94, M_94)) := by
          intro z
          by_cases c : T + 1 ≤ t
          · rw [if_pos (nI_le c (by omega))]
            by_cases c' : T + 1 < t
            · rw [if_pos c']
            · rw [if_neg c', show t = T + 1 by omega]
          · rw [if_neg (fun q => c ((nI_leI (by omega) (by omega)).mp q)), if_neg (by omega)]
        rw [hmin, hmin]
        have hmt : (if T + 1 < t then T + 1 else t) ≤ T + 1 := by
          by_cases c : T + 1 < t
          · rw [if_pos c]; omega
          · rw [if_neg c]; omega
        by_cases c : T < f
        · rw [if_pos (nI_lt c (by omega)), (over_v cB cM cd r7 ho hmt (show T + 1 < 2 ^ 31 by omega)).2, obi_s, show (if T + 1 < t then T + 1 else t) - (T + 1) = 0 by omega, show (if T + 1 < t then T + 1 else t) - f = 0 by omega]
          rfl
        · rw [if_neg (nI_nlt (show f ≤ T by omega) (by omega)), (over_v cB cM cd r7 ho hmt (show f < 2 ^ 31 by omega)).2, obi_s, if_pos trivial]
      · by_cases c2 : x2 = 2
        · subst c2
          obtain ⟨M', g1, g2, g3, g4⟩ := goes_v false cB cM cd r7 ho hf ht hft ht2
          have g1' : fX9_goes (nI o) 0 M = some (sa (gv B (fun s h => costs M s h mc) T (fcv B (fun s h => costs M s h mc) T false o) o) 0 f (t - f), M') := g1
          simp only [if_neg c0, if_neg c1, if_neg (show ¬ ((2 : Int32) < 0 ∨ (5 : Int32) < 2) by decide), i10, if_pos (show (2 : Int32) = 2 from rfl), if_neg (show ¬ (2 - 2 / 2 * 2 : Int32) = 1 by decide), fl, obi_s, hup, g1', if_neg (show ¬ (4 : Int32) ≤ 2 by decide)]
          exact ⟨_, B, M', rfl, by rw [g2, b24], hscr M' g3 g4⟩
        · by_cases c3 : x2 = 3
          · subst c3
            obtain ⟨M', g1, g2, g3, g4⟩ := goes_v true cB cM cd r7 ho hf ht hft ht2
            have g1' : fX9_goes (nI o) 1 M = some (sa (gv B (fun s h => costs M s h mc) T (fcv B (fun s h => costs M s h mc) T true o) o) 0 f (t - f), M') := g1
            simp only [if_neg c0, if_neg c1, if_neg c2, if_neg (show ¬ ((3 : Int32) < 0 ∨ (5 : Int32) < 3) by decide), i10, if_pos (show (3 : Int32) = 3 from rfl), if_pos (show (3 - 3 / 2 * 2 : Int32) = 1 by decide), fh, obi_s, hup, g1', if_neg (show ¬ (4 : Int32) ≤ 3 by decide)]
            exact ⟨_, B, M', rfl, by rw [g2, b24], hscr M' g3 g4⟩
          · by_cases c4 : x2 = 4
            · subst c4
              obtain ⟨M', g1, g2, g3, g4⟩ := goes_v false cB cM cd r7 ho hf ht hft ht2
              have g1' : fX9_goes (nI o) 0 M = some (sa (gv B (fun s h => costs M s h mc) T (fcv B (fun s h => costs M s h mc) T false o) o) 0 f (t - f), M') := g1
              simp only [if_neg c0, if_neg c1, if_neg c2, if_neg c3, if_neg (show ¬ ((4 : Int32) < 0 ∨ (5 : Int32) < 4) by decide), i10, if_pos (show (4 : Int32) = 4 from rfl), if_neg (show ¬ (4 - 4 / 2 * 2 : Int32) = 1 by decide), fl, obi_s, atEnd_v _ cB cM cd r7 ho hfB htB hft ht2, g1', if_pos (show (4 : Int32) ≤ 4 by decide)]
              exact ⟨_, B, M', rfl, rfl, hscr M' g3 g4⟩
            · by_cases c5 : x2 = 5
              · subst c5
                obtain ⟨M', g1, g2, g3, g4⟩ := goes_v true cB cM cd r7 ho hf ht hft ht2
                have g1' : fX9_goes (nI o) 1 M = some (sa (gv B (fun s h => costs M s h mc) T (fcv B (fun s h => costs M s h mc) T true o) o) 0 f (t - f), M') := g1
                simp only [if_neg c0, if_neg c1, if_neg c2, if_neg c3, if_neg c4, if_neg (show ¬ ((5 : Int32) < 0 ∨ (5 : Int32) < 5) by decide), i10, if_pos (show (5 : Int32) = 5 from rfl), if_pos (show (5 - 5 / 2 * 2 : Int32) = 1 by decide), fh, obi_s, atEnd_v _ cB cM cd r7 ho hfB htB hft ht2, g1', if_pos (show (4 : Int32) ≤ 5 by decide)]
                exact ⟨_, B, M', rfl, rfl, hscr M' g3 g4⟩
              · have hout : x2 < 0 ∨ 5 < x2 := by
                  have := tsO (x := x2) 5 (fun k hk => by rcases (show k = 0 ∨ k = 1 ∨ k = 2 ∨ k = 3 ∨ k = 4 ∨ k = 5 by omega) with rfl | rfl | rfl | rfl | rfl | rfl <;> assumption)
                  rw [lt_i, lt_i]
                  have z0 : (0 : Int32).toInt = 0 := rfl
                  have z5 : (5 : Int32).toInt = 5 := rfl
                  omega
                simp only [if_neg c0, if_neg c1, if_neg c2, if_neg c3, if_neg c4, if_neg c5, if_pos hout, i00]
                exact ⟨_, B, M, rfl, rfl, hRel⟩
  · unfold fX8_budgeted fX9_budgeted
    simp only [e1, e2, obi_s, i00]
    exact ⟨_, B, M, rfl, rfl, hRel⟩

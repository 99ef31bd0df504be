theorem X5_sort_i (K : Int32 → Int32 → Mem → Res) (x1 x2 x : Int32) : ∀ (n j : Nat) (M : Mem), j < 7 → j < n → lX5_sort_17 K n x1 x2 x (nI j) M = K x1 (x2 + 1) (stM M 11 (ins (M 11) x j)) := by
  intro n
  induction n with
  | zero => intro j M h1 h2; omega
  | succ n ih =>
    intro j M h1 h2
    show gX5_sort_17 K (lX5_sort_17 K n) x1 x2 x (nI j) M = _
    unfold gX5_sort_17 gX5_sort_57
    have gj := gd2 (show j < 7 from h1) (by decide)
    cases j with
    | zero =>
      rw [if_pos (show nI 0 ≤ 0 by decide), if_neg (show ¬ (nI 0 < 0 ∨ 7 ≤ Int32.toNatClampNeg (nI 0)) by decide), nI_clamp (by decide), upM_st]
      rfl
    | succ j =>
      have e1 : nI (j + 1) - 1 = nI j := nI_pred j
      have gk := gd2 (show j < 7 by omega) (by decide)
      simp only [if_neg (show ¬ nI (j + 1) ≤ 0 from nI_nle (by omega) (by omega)), e1, nI_clamp (show j < 2 ^ 31 by omega), nI_clamp (show j + 1 < 2 ^ 31 by omega), if_neg gk, if_neg gj, ins]
      by_cases c : M 11 j ≤ x
      · rw [if_pos c, if_pos c, upM_st]
      · rw [if_neg c, if_neg c, pk_m1, ih j _ (by omega) (by omega), upM_st, stM_eq, stM_st]
theorem X9_median_i (K : Int32 → Int32 → Mem → Res) (x1 x2 x : Int32) : ∀ (n j : Nat) (M : Mem), j < 7 → j < n → lX9_median_17 K n x1 x2 x (nI j) M = K x1 (x2 + 1) (stM M 9 (ins (M 9) x j)) := by
  intro n
  induction n with
  | zero => intro j M h1 h2; omega
  | succ n ih =>
    intro j M h1 h2
    show gX9_median_17 K (lX9_median_17 K n) x1 x2 x (nI j) M = _
    unfold gX9_median_17 gX9_median_57
    have gj := gd2 (show j < 7 from h1) (by decide)
    cases j with
    | zero =>
      rw [if_pos (show nI 0 ≤ 0 by decide), if_neg (show ¬ (nI 0 < 0 ∨ 7 ≤ Int32.toNatClampNeg (nI 0)) by decide), nI_clamp (by decide), upM_st]
      rfl
    | succ j =>
      have e1 : nI (j + 1) - 1 = nI j := nI_pred j
      have gk := gd2 (show j < 7 by omega) (by decide)
      simp only [if_neg (show ¬ nI (j + 1) ≤ 0 from nI_nle (by omega) (by omega)), e1, nI_clamp (show j < 2 ^ 31 by omega), nI_clamp (show j + 1 < 2 ^ 31 by omega), if_neg gk, if_neg gj, ins]
      by_cases c : M 9 j ≤ x
      · rw [if_pos c, if_pos c, upM_st]
      · rw [if_neg c, if_neg c, pk_m1, ih j _ (by omega) (by omega), upM_st, stM_eq, stM_st]
theorem sortB_l {N : Nat} (hN : N ≤ 7) : ∀ (n i : Nat) (M : Mem), i ≤ 7 → 7 - i < n → lX5_sort_2 n (nI N) (nI i) M = some (0, stM M 11 (srt (M 11) i (N - i))) := by
  intro n
  induction n with
  | zero => intro i M h1 h2; omega
  | succ n ih =>
    intro i M h1 h2
    show gX5_sort_2 (lX5_sort_2 n) (nI N) (nI i) M = _
    unfold gX5_sort_2
    by_cases c : N ≤ i
    · rw [if_pos (nI_le c (by omega)), show N - i = 0 by omega, srt, stM_self]
    · rw [if_neg (nI_ge (by omega) (by omega)), if_neg (gd (show i < 7 by omega) (by decide)), nI_clamp (by omega), X5_sort_i (lX5_sort_2 n) (nI N) (nI i) (M 11 i) fu i M (by omega) (by unfold fu; omega), nI_1, ih (i + 1) _ (by omega) (by omega), stM_eq, stM_st, show N - i = (N - (i + 1)) + 1 by omega]
      rfl
theorem medB {N : Nat} (h1 : 1 ≤ N) (hN : N ≤ 7) (M : Mem) : fX5_median (nI N) M = some (srt (M 11) 1 (N - 1) ((N - 1) / 2), stM M 11 (srt (M 11) 1 (N - 1))) := by
  unfold fX5_median fX5_sort
  rw [show (1 : Int32) = nI 1 from rfl, sortB_l hN fu 1 M (by omega) (by unfold fu; omega), obi_s, show nI 1 = (1 : Int32) from rfl, med_n h1 hN, if_neg (gd (show (N - 1) / 2 < 7 by omega) (by decide)), nI_clamp (by omega), stM_eq]
theorem medM_l {N : Nat} (h1 : 1 ≤ N) (hN : N ≤ 7) : ∀ (n i : Nat) (M : Mem), i ≤ 7 → 7 - i < n → lX9_median_2 n (nI N) (nI i) M = some (srt (M 9) i (N - i) ((N - 1) / 2), stM M 9 (srt (M 9) i (N - i))) := by
  intro n
  induction n with
  | zero => intro i M h1 h2; omega
  | succ n ih =>
    intro i M h2 h3
    show gX9_median_2 (lX9_median_2 n) (nI N) (nI i) M = _
    unfold gX9_median_2
    by_cases c : N ≤ i
    · rw [if_pos (nI_le c (by omega)), med_n h1 hN, if_neg (gd (show (N - 1) / 2 < 7 by omega) (by decide)), nI_clamp (by omega), show N - i = 0 by omega, srt, stM_self]
    · rw [if_neg (nI_ge (by omega) (by omega)), if_neg (gd (show i < 7 by omega) (by decide)), nI_clamp (by omega), X9_median_i (lX9_median_2 n) (nI N) (nI i) (M 9 i) fu i M (by omega) (by unfold fu; omega), nI_1, ih (i + 1) _ (by omega) (by omega), stM_eq, stM_st, show N - i = (N - (i + 1)) + 1 by omega]
      rfl
theorem medM {N : Nat} (h1 : 1 ≤ N) (hN : N ≤ 7) (M : Mem) : fX9_median (nI N) M = some (srt (M 9) 1 (N - 1) ((N - 1) / 2), stM M 9 (srt (M 9) 1 (N - 1))) :=
  medM_l h1 hN fu 1 M (by omega) (by unfold fu; omega)

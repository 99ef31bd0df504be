def MtB (B : Mem) (s : Nat) (c : Int32) (j : Nat) : Prop := ¬ B 19 j = 0 ∧ B 15 j = nI s ∧ B 16 j = c
def MtM (M : Mem) (s : Nat) (c : Int32) (j : Nat) : Prop := ¬ M 15 j = 0 ∧ M 11 j = nI s ∧ M 12 j = c
theorem openFor_l {B : Mem} {kc s : Nat} {c : Int32} (hB : B 14 5 = nI kc) (hk : kc ≤ 100) : ∀ (n i : Nat), i ≤ kc → kc - i < n → (∃ j, i ≤ j ∧ j < kc ∧ MtB B s c j ∧ lX2_openFor_2 n (nI s) c (nI i) B = some (nI j, B)) ∨ ((∀ j, i ≤ j → j < kc → ¬ MtB B s c j) ∧ lX2_openFor_2 n (nI s) c (nI i) B = some (-1, B)) := by
  intro n
  induction n with
  | zero => intro i h1 h2; omega
  | succ n ih =>
    intro i h1 h2
    show (∃ j, i ≤ j ∧ j < kc ∧ MtB B s c j ∧ gX2_openFor_2 (lX2_openFor_2 n) (nI s) c (nI i) B = some (nI j, B)) ∨ ((∀ j, i ≤ j → j < kc → ¬ MtB B s c j) ∧ gX2_openFor_2 (lX2_openFor_2 n) (nI s) c (nI i) B = some (-1, B))
    unfold gX2_openFor_2 gX2_openFor_41
    rw [hB]
    by_cases e : i = kc
    · subst e
      rw [if_pos (nI_le (Nat.le_refl i) (by omega))]
      exact Or.inr ⟨fun j a b => by omega, rfl⟩
    · have hi : i < kc := by omega
      have g := gd2 (show i < 100 by omega) (by decide)
      simp only [if_neg (nI_ge hi (show kc < 2 ^ 31 by omega)), nI_clamp (show i < 2 ^ 31 by omega), if_neg g, nI_1]
      have key : ¬ MtB B s c i → (∃ j, i ≤ j ∧ j < kc ∧ MtB B s c j ∧ lX2_openFor_2 n (nI s) c (nI (i + 1)) B = some (nI j, B)) ∨ ((∀ j, i ≤ j → j < kc → ¬ MtB B s c j) ∧ lX2_openFor_2 n (nI s) c (nI (i + 1)) B = some (-1, B)) := by
        intro hn
        rcases ih (i + 1) (by omega) (by omega) with ⟨j, a, b, d, e2⟩ | ⟨a, b⟩
        · exact Or.inl ⟨j, by omega, b, d, e2⟩
        · refine Or.inr ⟨fun j h3 h4 => ?_, b⟩
          by_cases e3 : j = i
          · subst e3; exact hn
          · exact a j (by omega) h4
      by_cases c0 : B 19 i = 0
      · simp only [if_pos c0]
        exact key (fun q => q.1 c0)
      · simp only [if_neg c0]
        by_cases c1 : B 15 i = nI s
        · simp only [if_pos c1]
          by_cases c2 : B 16 i = c
          · simp only [if_pos c2]
            exact Or.inl ⟨i, Nat.le_refl i, hi, ⟨c0, c1, c2⟩, rfl⟩
          · simp only [if_neg c2]
            exact key (fun q => c2 q.2.2)
        · simp only [if_neg c1]
          exact key (fun q => c1 q.2.1)
def Ecr (x1 x2 x3 x4 : Int32) (M : Mem) : Res := gX9_cries_6 (fun _ _ _ _ _ _ => none) x1 x2 x3 x4 (M 0 2) M
theorem crM_none {M : Mem} {kc s : Nat} {c t x4 : Int32} (hM : M 0 2 = nI kc) (hk : kc ≤ 100) : ∀ (n i : Nat), i ≤ kc → kc - i < n → (∀ j, i ≤ j → j < kc → ¬ MtM M s c j) → lX9_cries_6 n (nI s) c t x4 (nI i) M = Ecr (nI s) c t x4 M := by
  intro n
  induction n with
  | zero => intro i h1 h2; omega
  | succ n ih =>
    intro i h1 h2 hno
    show gX9_cries_6 (lX9_cries_6 n) (nI s) c t x4 (nI i) M = _
    by_cases e : i = kc
    · subst e
      unfold Ecr gX9_cries_6
      rw [hM, if_pos (nI_le (Nat.le_refl i) (by omega)), if_pos (nI_le (Nat.le_refl i) (by omega))]
    · unfold gX9_cries_6 gX9_cries_61
      have hi : i < kc := by omega
      have g := gd (show i < 100 by omega) (by decide)
      have key := ih (i + 1) (by omega) (by omega) (fun j h3 h4 => hno j (by omega) h4)
      have hn := hno i (Nat.le_refl i) hi
      rw [hM, if_neg (nI_ge hi (show kc < 2 ^ 31 by omega)), if_neg g, nI_clamp (show i < 2 ^ 31 by omega), show nI i + 1 = nI (i + 1) from nI_1 i]
      by_cases c0 : M 15 i = 0
      · rw [if_pos c0]
        exact key
      · rw [if_neg c0]
        by_cases c1 : M 11 i = nI s
        · rw [if_pos c1]
          by_cases c2 : M 12 i = c
          · exact absurd ⟨c0, c1, c2⟩ hn
          · rw [if_neg c2]
            exact key
        · rw [if_neg c1]
          exact key
theorem crM_one {M : Mem} {kc s j0 : Nat} {c t : Int32} (hM : M 0 2 = nI kc) (hk : kc ≤ 100) (hj0 : j0 < kc) (hm : MtM M s c j0) : ∀ (n i : Nat) (x4 : Int32), i ≤ j0 → kc - i < n → (∀ j, j < kc → j ≠ j0 → ¬ MtM M s c j) → lX9_cries_6 n (nI s) c t x4 (nI i) M = Ecr (nI s) c t 1 (upM M 14 j0 t) := by
  intro n
  induction n with
  | zero => intro i x4 h1 h2; omega
  | succ n ih =>
    intro i x4 h1 h2 hno
    show gX9_cries_6 (lX9_cries_6 n) (nI s) c t x4 (nI i) M = _
    have hi : i < kc := by omega
    have g := gd (show i < 100 by omega) (by decide)
    unfold gX9_cries_6 gX9_cries_61
    rw [hM, if_neg (nI_ge hi (show kc < 2 ^ 31 by omega)), if_neg g, nI_clamp (show i < 2 ^ 31 by omega), show nI i + 1 = nI (i + 1) from nI_1 i]
    by_cases e : i = j0
    · subst e
      rw [if_neg hm.1, if_pos hm.2.1, if_pos hm.2.2]
      refine crM_none (M := upM M 14 i t) hM hk n (i + 1) (by omega) (by omega) (fun j h3 h4 => ?_)
      exact hno j h4 (by omega)
    · have key := ih (i + 1) x4 (by omega) (by omega) hno
      have hn := hno i hi e
      by_cases c0 : M 15 i = 0
      · rw [if_pos c0]
        exact key
      · rw [if_neg c0]
        by_cases c1 : M 11 i = nI s
        · rw [if_pos c1]
          by_cases c2 : M 12 i = c
          · exact absurd ⟨c0, c1, c2⟩ hn
          · rw [if_neg c2]
            exact key
        · rw [if_neg c1]
          exact key
theorem Ecr_is {M : Mem} {x1 x2 x3 : Int32} : Ecr x1 x2 x3 1 M = some (0, M) := by
  unfold Ecr gX9_cries_6
  rw [if_pos (Int32.le_refl _), i10]
theorem Ecr_full {M : Mem} {x1 x2 x3 : Int32} (hM : M 0 2 = 100) : Ecr x1 x2 x3 0 M = some (0, M) := by
  unfold Ecr gX9_cries_6
  rw [if_pos (Int32.le_refl _), i00, if_pos hM]
theorem Ecr_add {M : Mem} {x1 x2 x3 : Int32} {kc : Nat} (hM : M 0 2 = nI kc) (hk : kc < 100) : ∃ M' : Mem, Ecr x1 x2 x3 0 M = some (0, M') ∧ M' 11 = upd (M 11) kc x1 ∧ M' 12 = upd (M 12) kc x2 ∧ M' 13 = upd (M 13) kc x3 ∧ M' 14 = upd (M 14) kc x3 ∧ M' 15 = upd (M 15) kc 1 ∧ M' 0 2 = nI (kc + 1) ∧ (∀ j, j ≠ 2 → M' 0 j = M 0 j) ∧ ∀ k, k ≠ 0 → k ≠ 11 → k ≠ 12 → k ≠ 13 → k ≠ 14 → k ≠ 15 → M' k = M k := by
  have hg := gd2 (show kc < 100 from hk) (by decide)
  have h100 : ¬ nI kc = 100 := fun e => by
    have := (nI_eq (b := 100) (by omega) (by decide)).mp e
    omega
  refine ⟨upM (upM (upM (upM (upM (upM M 11 kc x1) 12 kc x2) 13 kc x3) 14 kc x3) 15 kc 1) 0 2 (nI (kc + 1)), ?_, by simp [upM], by simp [upM], by simp [upM], by simp [upM], by simp [upM], by simp [upM, upd], fun j hj => by simp [upM, upd, hj], fun k h0 h1 h2 h3 h4 h5 => by simp [upM, h0, h1, h2, h3, h4, h5]⟩
  unfold Ecr gX9_cries_6
  rw [if_pos (Int32.le_refl _), i00]
  simp only [upM_ne _ _ _ (show (0 : Nat) ≠ 11 by decide), upM_ne _ _ _ (show (0 : Nat) ≠ 12 by decide), upM_ne _ _ _ (show (0 : Nat) ≠ 13 by decide), upM_ne _ _ _ (show (0 : Nat) ≠ 14 by decide), upM_ne _ _ _ (show (0 : Nat) ≠ 15 by decide), hM, nI_clamp (show kc < 2 ^ 31 by omega), if_neg hg, if_neg h100]
  rw [show nI kc + 1 = nI (kc + 1) from nI_1 kc]
theorem addB_v {B : Mem} {x1 x2 x3 : Int32} {kc : Nat} (hB : B 14 5 = nI kc) (hk : kc < 100) : ∃ B' : Mem, fX2_add x1 x2 x3 B = some (0, B') ∧ B' 15 = upd (B 15) kc x1 ∧ B' 16 = upd (B 16) kc x2 ∧ B' 17 = upd (B 17) kc x3 ∧ B' 18 = upd (B 18) kc x3 ∧ B' 19 = upd (B 19) kc 1 ∧ B' 14 5 = nI (kc + 1) ∧ ∀ k, k ≠ 14 → k ≠ 15 → k ≠ 16 → k ≠ 17 → k ≠ 18 → k ≠ 19 → B' k = B k := by
  have hg := gd2 (show kc < 100 from hk) (by decide)
  refine ⟨upM (upM (upM (upM (upM (upM B 15 kc x1) 16 kc x2) 17 kc x3) 18 kc x3) 19 kc 1) 14 5 (nI (kc + 1)), ?_, by simp [upM], by simp [upM], by simp [upM], by simp [upM], by simp [upM], by simp [upM, upd], fun k h0 h1 h2 h3 h4 h5 => by simp [upM, h0, h1, h2, h3, h4, h5]⟩
  unfold fX2_add
  simp only [upM_ne _ _ _ (show (14 : Nat) ≠ 15 by decide), upM_ne _ _ _ (show (14 : Nat) ≠ 16 by decide), upM_ne _ _ _ (show (14 : Nat) ≠ 17 by decide), upM_ne _ _ _ (show (14 : Nat) ≠ 18 by decide), upM_ne _ _ _ (show (14 : Nat) ≠ 19 by decide), hB, nI_clamp (show kc < 2 ^ 31 by omega), if_neg hg]
  rw [show nI kc + 1 = nI (kc + 1) from nI_1 kc]
theorem looks_l {kc s T : Nat} (hk : kc ≤ 100) : ∀ (n i : Nat) (M : Mem), M 0 2 = nI kc → i ≤ kc → kc - i < n → ∃ M' : Mem, lX9_looks_23 n (nI s) (nI T) (nI i) M = some (0, M') ∧ (∀ k, k ≠ 15 → M' k = M k) ∧ ∀ j, M' 15 j = if i ≤ j ∧ j < kc ∧ M 11 j = nI s ∧ ¬ nI T < M 14 j + 6 then 0 else M 15 j := by
  intro n
  induction n with
  | zero => intro i M hM h1 h2; omega
  | succ n ih =>
    intro i M hM h1 h2
    show ∃ M', gX9_looks_23 (lX9_looks_23 n) (nI s) (nI T) (nI i) M = some (0, M') ∧ _
    unfold gX9_looks_23 gX9_looks_61
    by_cases e : i = kc
    · subst e
      rw [hM, if_pos (nI_le (Nat.le_refl i) (by omega))]
      exact ⟨M, rfl, fun _ _ => rfl, fun j => by rw [if_neg (fun q => by omega)]⟩
    · have hi : i < kc := by omega
      have g := gd (show i < 100 by omega) (by decide)
      rw [hM, if_neg (nI_ge hi (show kc < 2 ^ 31 by omega)), if_neg g, nI_clamp (show i < 2 ^ 31 by omega), show nI i + 1 = nI (i + 1) from nI_1 i]
      have key1 : ¬ (M 11 i = nI s ∧ ¬ nI T < M 14 i + 6) → ∃ M' : Mem, lX9_looks_23 n (nI s) (nI T) (nI (i + 1)) M = some (0, M') ∧ (∀ k, k ≠ 15 → M' k = M k) ∧ ∀ j, M' 15 j = if i ≤ j ∧ j < kc ∧ M 11 j = nI s ∧ ¬ nI T < M 14 j + 6 then 0 else M 15 j := by
        intro hn
        obtain ⟨M', a, b, c⟩ := ih (i + 1) M hM (by omega) (by omega)
        refine ⟨M', a, b, fun j => ?_⟩
        rw [c j]
        by_cases e1 : j = i
        · subst e1
          rw [if_neg (fun q => by omega), if_neg (fun q => hn q.2.2)]
        · by_cases e2 : i + 1 ≤ j ∧ j < kc ∧ M 11 j = nI s ∧ ¬ nI T < M 14 j + 6
          · rw [if_pos e2, if_pos ⟨by omega, e2.2⟩]
          · rw [if_neg e2, if_neg (fun q => e2 ⟨by omega, q.2⟩)]
      by_cases c1 : M 11 i = nI s
      · rw [if_pos c1]
        by_cases c2 : nI T < M 14 i + 6
        · rw [if_pos c2]
          exact key1 (fun q => q.2 c2)
        · rw [if_neg c2]
          obtain ⟨M', a, b, c⟩ := ih (i + 1) (upM M 15 i 0) hM (by omega) (by omega)
          refine ⟨M', a, fun k hk => by rw [b k hk, upM_ne _ _ _ hk], fun j => ?_⟩
          rw [c j, upM_eq, upM_ne _ _ _ (show (11 : Nat) ≠ 15 by decide), upM_ne _ _ _ (show (14 : Nat) ≠ 15 by decide)]
          by_cases e1 : j = i
          · subst e1
            rw [if_neg (fun q => by omega), upd_eq, if_pos ⟨Nat.le_refl j, hi, c1, c2⟩]
          · rw [upd_ne _ _ e1]
            by_cases e2 : i + 1 ≤ j ∧ j < kc ∧ M 11 j = nI s ∧ ¬ nI T < M 14 j + 6
            · rw [if_pos e2, if_pos ⟨by omega, e2.2⟩]
            · rw [if_neg e2, if_neg (fun q => e2 ⟨by omega, q.2⟩)]
      · rw [if_neg c1]
        exact key1 (fun q => c1 q.1)
theorem stale_l {kc T : Nat} (hk : kc ≤ 100) : ∀ (n i : Nat) (B : Mem), B 14 5 = nI kc → i ≤ kc → kc - i < n → ∃ B' : Mem, lX2_closeStale_2 n (nI T) (nI i) B = some (0, B') ∧ (∀ k, k ≠ 19 → B' k = B k) ∧ ∀ j, B' 19 j = if i ≤ j ∧ j < kc ∧ ¬ nI T - B 18 j < 6 then 0 else B 19 j := by
  intro n
  induction n with
  | zero => intro i B hB h1 h2; omega
  | succ n ih =>
    intro i B hB h1 h2
    show ∃ B', gX2_closeStale_2 (lX2_closeStale_2 n) (nI T) (nI i) B = some (0, B') ∧ _
    unfold gX2_closeStale_2 gX2_closeStale_30
    by_cases e : i = kc
    · subst e
      rw [hB, if_pos (nI_le (Nat.le_refl i) (by omega))]
      exact ⟨B, rfl, fun _ _ => rfl, fun j => by rw [if_neg (fun q => by omega)]⟩
    · have hi : i < kc := by omega
      have g := gd (show i < 100 by omega) (by decide)
      rw [hB, if_neg (nI_ge hi (show kc < 2 ^ 31 by omega)), if_neg g, nI_clamp (show i < 2 ^ 31 by omega), show nI i + 1 = nI (i + 1) from nI_1 i]
      by_cases c2 : nI T - B 18 i < 6
      · rw [if_pos c2]
        obtain ⟨B', a, b, c⟩ := ih (i + 1) B hB (by omega) (by omega)
        refine ⟨B', a, b, fun j => ?_⟩
        rw [c j]
        by_cases e1 : j = i
        · subst e1
          rw [if_neg (fun q => by omega), if_neg (fun q => q.2.2 c2)]
        · by_cases e2 : i + 1 ≤ j ∧ j < kc ∧ ¬ nI T - B 18 j < 6
          · rw [if_pos e2, if_pos ⟨by omega, e2.2⟩]
          · rw [if_neg e2, if_neg (fun q => e2 ⟨by omega, q.2⟩)]
      · rw [if_neg c2]
        obtain ⟨B', a, b, c⟩ := ih (i + 1) (upM B 19 i 0) hB (by omega) (by omega)
        refine ⟨B', a, fun k hk => by rw [b k hk, upM_ne _ _ _ hk], fun j => ?_⟩
        rw [c j, upM_eq, upM_ne _ _ _ (show (18 : Nat) ≠ 19 by decide)]
        by_cases e1 : j = i
        · subst e1
          rw [if_neg (fun q => by omega), upd_eq, if_pos ⟨Nat.le_refl j, hi, c2⟩]
        · rw [upd_ne _ _ e1]
          by_cases e2 : i + 1 ≤ j ∧ j < kc ∧ ¬ nI T - B 18 j < 6
          · rw [if_pos e2, if_pos ⟨by omega, e2.2⟩]
          · rw [if_neg e2, if_neg (fun q => e2 ⟨by omega, q.2⟩)]
theorem endLed_l {T : Nat} (hT : T < 2000) : ∀ (n s : Nat) (B : Mem), B 1 3 = nI T → s ≤ 6 → 6 - s < n → ∃ B' : Mem, lX3_endHour_2 n (nI s) B = some (0, B') ∧ (∀ k, k ≠ 1 → k ≠ 2 → k ≠ 4 → B' k = B k) ∧ B' 1 3 = nI (T + 1) ∧ (∀ j, j < 6 → B' 4 j = if s ≤ j then 0 else B 4 j) ∧ ∀ j h, j < 6 → h < 2000 → B' 2 (2000 * j + h) = if s ≤ j ∧ h = T then B 3 j + B 4 j else B 2 (2000 * j + h) := by
  intro n
  induction n with
  | zero => intro s B hB h1 h2; omega
  | succ n ih =>
    intro s B hB h1 h2
    show ∃ B', gX3_endHour_2 (lX3_endHour_2 n) (nI s) B = some (0, B') ∧ _
    unfold gX3_endHour_2
    by_cases e : s = 6
    · subst e
      rw [if_pos (show (6 : Int32) ≤ nI 6 by decide)]
      refine ⟨_, rfl, fun k h1 _ _ => by rw [upM_ne _ _ _ h1], ?_, fun j hj => ?_, fun j h hj hh => ?_⟩
      · rw [upM_eq, upd_eq, hB]
        exact nI_1 T
      · rw [upM_ne _ _ _ (by decide), if_neg (by omega)]
      · rw [upM_ne _ _ _ (by decide), if_neg (by omega)]
    · have hs : s < 6 := by omega
      rw [if_neg (show ¬ (6 : Int32) ≤ nI s from nI_ge (b := 6) hs (by decide)), if_neg (gd hs (by decide)), hB, ix2, if_neg (gd (show 2000 * s + T < 12000 by omega) (by decide)), nI_clamp (by omega), nI_clamp (by omega), show nI s + 1 = nI (s + 1) from nI_1 s]
      obtain ⟨B', a, b, c, d, f⟩ := ih (s + 1) (upM (upM B 2 (2000 * s + T) (B 3 s + B 4 s)) 4 s 0) hB (by omega) (by omega)
      refine ⟨B', a, fun k h1 h2 h3 => by rw [b k h1 h2 h3, upM_ne _ _ _ h3, upM_ne _ _ _ h2], c, fun j hj => ?_, fun j h hj hh => ?_⟩
      · rw [d j hj, upM_eq, upM_ne _ _ _ (show (4 : Nat) ≠ 2 by decide)]
        by_cases e1 : j = s
        · subst e1
          rw [if_neg (by omega), upd_eq, if_pos (Nat.le_refl j)]
        · rw [upd_ne _ _ e1]
          by_cases e2 : s + 1 ≤ j
          · rw [if_pos e2, if_pos (by omega)]
          · rw [if_neg e2, if_neg (by omega)]
      · rw [f j h hj hh, upM_ne _ _ _ (show (2 : Nat) ≠ 4 by decide), upM_eq, upM_ne _ _ _ (show (3 : Nat) ≠ 4 by decide), upM_ne _ _ _ (show (3 : Nat) ≠ 2 by decide), upM_eq, upM_ne _ _ _ (show (4 : Nat) ≠ 2 by decide)]
        by_cases e1 : j = s
        · subst e1
          rw [if_neg (by omega)]
          by_cases e2 : h = T
          · subst e2
            rw [upd_eq, if_pos ⟨Nat.le_refl j, rfl⟩]
          · rw [upd_ne _ _ (by omega), if_neg (fun q => e2 q.2)]
        · rw [upd_ne _ _ e1, upd_ne _ _ (by omega)]
          by_cases e2 : s + 1 ≤ j ∧ h = T
          · rw [if_pos e2, if_pos ⟨by omega, e2.2⟩]
          · rw [if_neg e2, if_neg (fun q => e2 ⟨by omega, q.2⟩)]

def stM (M : Mem) (k : Nat) (f : Nat → Int32) : Mem := fun b => if b = k then f else M b
theorem stM_eq (M : Mem) (k : Nat) (f : Nat → Int32) : stM M k f k = f := by simp [stM]
theorem stM_ne {k k' : Nat} (M : Mem) (f : Nat → Int32) (h : k' ≠ k) : stM M k f k' = M k' := by simp [stM, h]
theorem upM_st (M : Mem) (k j : Nat) (x : Int32) : upM M k j x = stM M k (upd (M k) j x) := by
  funext b
  by_cases h : b = k
  · subst h; simp [upM, stM]
  · simp [upM, stM, h]
theorem stM_st (M : Mem) (k : Nat) (f g : Nat → Int32) : stM (stM M k f) k g = stM M k g := by
  funext b
  by_cases h : b = k
  · subst h; simp [stM]
  · simp [stM, h]
theorem stM_self (M : Mem) (k : Nat) : stM M k (M k) = M := by
  funext b
  by_cases h : b = k
  · subst h; simp [stM]
  · simp [stM, h]
def ins (f : Nat → Int32) (x : Int32) : Nat → (Nat → Int32)
  | 0 => upd f 0 x
  | j + 1 => if f j ≤ x then upd f (j + 1) x else ins (upd f (j + 1) (f j)) x j
def srt (f : Nat → Int32) (i : Nat) : Nat → (Nat → Int32)
  | 0 => f
  | m + 1 => srt (ins f (f i) i) (i + 1) m
def cntP (f : Nat → Int32) (P : Int32 → Bool) : Nat → Nat
  | 0 => 0
  | n + 1 => cntP f P n + (if P (f n) then 1 else 0)
def PE (f g : Nat → Int32) (n : Nat) : Prop := ∀ P : Int32 → Bool, cntP f P n = cntP g P n
def Sd (f : Nat → Int32) (n : Nat) : Prop := ∀ i j, i ≤ j → j < n → f i ≤ f j
theorem cntP_congr {f g : Nat → Int32} {P : Int32 → Bool} : ∀ n, (∀ i, i < n → f i = g i) → cntP f P n = cntP g P n
  | 0, _ => rfl
  | n + 1, h => by rw [cntP, cntP, cntP_congr n (fun i hi => h i (by omega)), h n (Nat.lt_succ_self n)]
theorem cntP_map {f g : Nat → Int32} {A : Int32 → Int32} {P : Int32 → Bool} : ∀ n, (∀ i, i < n → g i = A (f i)) → cntP g P n = cntP f (fun x => P (A x)) n
  | 0, _ => rfl
  | n + 1, h => by rw [cntP, cntP, cntP_map n (fun i hi => h i (by omega)), h n (Nat.lt_succ_self n)]
theorem cntP_swap {f g : Nat → Int32} {P : Int32 → Bool} {j : Nat} (h1 : g j = f (j + 1)) (h2 : g (j + 1) = f j) (h3 : ∀ i, i ≠ j → i ≠ j + 1 → g i = f i) : ∀ n, j + 2 ≤ n → cntP g P n = cntP f P n
  | n + 1, h => by
    by_cases e : n = j + 1
    · subst e
      rw [cntP, cntP, cntP, cntP, h1, h2, cntP_congr (g := f) j (fun i hi => h3 i (by omega) (by omega))]
      omega
    · rw [cntP, cntP, cntP_swap h1 h2 h3 n (by omega), h3 n (by omega) (by omega)]
theorem ins_hi {x : Int32} : ∀ (j : Nat) (f : Nat → Int32) (k : Nat), j < k → ins f x j k = f k
  | 0, f, k, h => upd_ne _ _ (by omega)
  | j + 1, f, k, h => by
    rw [ins]
    by_cases c : f j ≤ x
    · rw [if_pos c]; exact upd_ne _ _ (by omega)
    · rw [if_neg c, ins_hi j _ k (by omega)]; exact upd_ne _ _ (by omega)
theorem ins_bd {x b : Int32} (hx : x ≤ b) : ∀ (j : Nat) (f : Nat → Int32), (∀ i, i < j → f i ≤ b) → ∀ i, i ≤ j → ins f x j i ≤ b
  | 0, f, h, i, hi => by
    have : i = 0 := by omega
    subst this
    rw [ins, upd_eq]
    exact hx
  | j + 1, f, h, i, hi => by
    rw [ins]
    by_cases c : f j ≤ x
    · rw [if_pos c]
      by_cases e : i = j + 1
      · subst e; rw [upd_eq]; exact hx
      · rw [upd_ne _ _ e]; exact h i (by omega)
    · rw [if_neg c]
      by_cases e : i = j + 1
      · subst e
        rw [ins_hi j _ _ (by omega), upd_eq]
        exact h j (by omega)
      · exact ins_bd hx j _ (fun k hk => by rw [upd_ne _ _ (by omega)]; exact h k (by omega)) i (by omega)
theorem ins_sd {x : Int32} : ∀ (j : Nat) (f : Nat → Int32), Sd f j → Sd (ins f x j) (j + 1)
  | 0, f, h, a, b, hab, hb => by
    have : a = b := by omega
    subst this
    exact Int32.le_refl _
  | j + 1, f, h, a, b, hab, hb => by
    rw [ins]
    by_cases c : f j ≤ x
    · rw [if_pos c]
      by_cases e : b = j + 1
      · subst e
        rw [upd_eq]
        by_cases e2 : a = j + 1
        · subst e2; rw [upd_eq]; exact Int32.le_refl _
        · rw [upd_ne _ _ e2]
          exact Int32.le_trans (h a j (by omega) (by omega)) c
      · rw [upd_ne _ _ e, upd_ne _ _ (by omega)]
        exact h a b hab (by omega)
    · rw [if_neg c]
      have hx : x ≤ f j := by rw [le_i] at c ⊢; omega
      by_cases e : b = j + 1
      · subst e
        rw [ins_hi j _ (j + 1) (by omega), upd_eq]
        by_cases e2 : a = j + 1
        · subst e2
          rw [ins_hi j _ (j + 1) (by omega), upd_eq]
          exact Int32.le_refl _
        · exact ins_bd hx j _ (fun k hk => by rw [upd_ne _ _ (by omega)]; exact h k j (by omega) (by omega)) a (by omega)
      · exact ins_sd j _ (fun p q hpq hq => by rw [upd_ne _ _ (by omega), upd_ne _ _ (by omega)]; exact h p q hpq (by omega)) a b hab (by omega)
theorem ins_pe {x : Int32} : ∀ (j : Nat) (f : Nat → Int32) (n : Nat), j < n → PE (upd f j x) (ins f x j) n
  | 0, f, n, _ => fun _ => rfl
  | j + 1, f, n, h => by
    intro P
    rw [ins]
    by_cases c : f j ≤ x
    · rw [if_pos c]
    · rw [if_neg c, ← ins_pe j (upd f (j + 1) (f j)) n (by omega) P]
      refine (cntP_swap (j := j) ?_ ?_ ?_ n (by omega)).symm
      · rw [upd_eq, upd_eq]
      · rw [upd_ne _ _ (by omega), upd_eq, upd_ne _ _ (by omega)]
      · intro i h1 h2
        rw [upd_ne _ _ h1, upd_ne _ _ h2, upd_ne _ _ h2]
theorem upd_self (f : Nat → Int32) (i : Nat) : upd f i (f i) = f := by
  funext j
  by_cases h : j = i
  · subst h; rw [upd_eq]
  · rw [upd_ne _ _ h]
theorem srt_ok : ∀ (m i : Nat) (f : Nat → Int32) (n : Nat), Sd f i → i + m ≤ n → Sd (srt f i m) (i + m) ∧ PE f (srt f i m) n
  | 0, i, f, n, h, _ => ⟨h, fun _ => rfl⟩
  | m + 1, i, f, n, h, hn => by
    have h1 := ins_sd (x := f i) i f h
    obtain ⟨a, b⟩ := srt_ok m (i + 1) (ins f (f i) i) n h1 (by omega)
    refine ⟨by rw [show i + (m + 1) = i + 1 + m by omega]; exact a, fun P => ?_⟩
    have h2 := ins_pe (x := f i) i f n (by omega) P
    rw [upd_self] at h2
    exact h2.trans (b P)
theorem cntP_mono {f : Nat → Int32} {P : Int32 → Bool} : ∀ (m n : Nat), n ≤ m → cntP f P n ≤ cntP f P m
  | 0, n, h => by rw [show n = 0 by omega]; exact Nat.le_refl _
  | m + 1, n, h => by
    by_cases e : n = m + 1
    · subst e; exact Nat.le_refl _
    · rw [cntP]
      have := cntP_mono (f := f) (P := P) m n (by omega)
      omega
theorem cntP_all {f : Nat → Int32} {P : Int32 → Bool} : ∀ n, (∀ i, i < n → P (f i) = true) → cntP f P n = n
  | 0, _ => rfl
  | n + 1, h => by rw [cntP, cntP_all n (fun i hi => h i (by omega)), h n (Nat.lt_succ_self n)]; rfl
theorem cntP_le {f : Nat → Int32} {P : Int32 → Bool} : ∀ n, cntP f P n ≤ n
  | 0 => Nat.le_refl _
  | n + 1 => by
    rw [cntP]
    have := cntP_le (f := f) (P := P) n
    by_cases c : P (f n) = true
    · rw [if_pos c]; omega
    · rw [if_neg c]; omega
theorem all_cntP {f : Nat → Int32} {P : Int32 → Bool} : ∀ n, cntP f P n = n → ∀ i, i < n → P (f i) = true
  | n + 1, h, i, hi => by
    rw [cntP] at h
    have h1 := cntP_le (f := f) (P := P) n
    by_cases c : P (f n) = true
    · rw [if_pos c] at h
      by_cases e : i = n
      · subst e; exact c
      · exact all_cntP n (by omega) i (by omega)
    · rw [if_neg c] at h
      omega
theorem cntP_stop {f : Nat → Int32} {P : Int32 → Bool} : ∀ (n j : Nat), (∀ i, j ≤ i → i < n → P (f i) = false) → j ≤ n → cntP f P n = cntP f P j
  | 0, j, _, h => by rw [show j = 0 by omega]
  | n + 1, j, h, hj => by
    by_cases e : j = n + 1
    · subst e; rfl
    · rw [cntP, cntP_stop n j (fun i h1 h2 => h i h1 (by omega)) (by omega), h n (by omega) (by omega)]
      rfl
theorem sd_cnt {f : Nat → Int32} {n j : Nat} (hs : Sd f n) (hj : j < n) (c : Int32) : f j ≤ c ↔ j < cntP f (fun x => decide (x ≤ c)) n := by
  constructor
  · intro h
    have h1 : cntP f (fun x => decide (x ≤ c)) (j + 1) = j + 1 := cntP_all (j + 1) (fun i hi => decide_eq_true (Int32.le_trans (hs i j (by omega) hj) h))
    have h2 := cntP_mono (f := f) (P := fun x => decide (x ≤ c)) n (j + 1) (by omega)
    omega
  · intro h
    by_cases q : f j ≤ c
    · exact q
    · exfalso
      have h1 := cntP_stop (f := f) (P := fun x => decide (x ≤ c)) n j (fun i h1 h2 => decide_eq_false (fun q2 => q (Int32.le_trans (hs j i h1 h2) q2))) (by omega)
      have h2 := cntP_le (f := f) (P := fun x => decide (x ≤ c)) j
      omega
theorem sd_uniq {f g : Nat → Int32} {n : Nat} (hf : Sd f n) (hg : Sd g n) (h : PE f g n) : ∀ j, j < n → f j = g j := by
  intro j hj
  apply Int32.le_antisymm
  · rw [sd_cnt hf hj, h, ← sd_cnt hg hj]
    exact Int32.le_refl _
  · rw [sd_cnt hg hj, ← h, ← sd_cnt hf hj]
    exact Int32.le_refl _
theorem med_n {N : Nat} (h : 1 ≤ N) (h7 : N ≤ 7) : (nI N - 1) / 2 = nI ((N - 1) / 2) := by
  rw [show nI N - 1 = nI (N - 1) from pk_sub (b := 1) h]
  exact pk_div (d := 2) (by omega) (by decide) (by decide)

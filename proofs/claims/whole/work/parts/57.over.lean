/-- what is laid to an owner for an hour, by both -/
def atv (B : Mem) (C : Nat → Nat → Int32) (o h : Nat) : Int32 := sa (fun s => PB B s o (C s h)) 0 0 6
theorem at_l {B M : Mem} {C : Nat → Nat → Int32} {T mc o h : Nat} (cB : CBv B C T) (cM : CMv M C T mc) (cd : Cbd C T) (r7 : R7 B M) (ho : o < 4) (hh : h ≤ T) : ∀ (n s : Nat) (acc : Int32), s ≤ 6 → 6 - s < n → lX0_at_5 n (nI o) (nI h) acc (nI s) B = some (sa (fun s => PB B s o (C s h)) acc s (6 - s), B) ∧ lX9_laidIn_5 n (nI o) (nI h) acc (nI s) M = some (sa (fun s => PB B s o (C s h)) acc s (6 - s), M) := by
  intro n
  induction n with
  | zero => intro s acc h1 h2; omega
  | succ n ih =>
    intro s acc h1 h2
    show gX0_at_5 (lX0_at_5 n) (nI o) (nI h) acc (nI s) B = _ ∧ gX9_laidIn_5 (lX9_laidIn_5 n) (nI o) (nI h) acc (nI s) M = _
    unfold gX0_at_5 gX9_laidIn_5
    by_cases e : s = 6
    · subst e
      rw [if_pos (show (6 : Int32) ≤ nI 6 by decide), if_pos (show (6 : Int32) ≤ nI 6 by decide)]
      exact ⟨rfl, rfl⟩
    · have hs : s < 6 := by omega
      obtain ⟨c, hc, ec⟩ := cd s h hs hh
      obtain ⟨p1, p2⟩ := part_eq r7 hs ho hc
      have g := show ¬ (6 : Int32) ≤ nI s from nI_ge (b := 6) hs (by decide)
      rw [if_neg g, if_neg g, costB cB hs hh, costM cM hs hh, obi_s, obi_s, ec, p1, p2, obi_s, obi_s, nI_1, show 6 - s = (6 - (s + 1)) + 1 by omega]
      have key := ih (s + 1) (acc + PB B s o (nI c)) (by omega) (by omega)
      rw [sa, ec]
      exact key
theorem at_v {B M : Mem} {C : Nat → Nat → Int32} {T mc o h : Nat} (cB : CBv B C T) (cM : CMv M C T mc) (cd : Cbd C T) (r7 : R7 B M) (ho : o < 4) (hh : h ≤ T) : fX0_at (nI o) (nI h) B = some (atv B C o h, B) ∧ fX9_laidIn (nI o) (nI h) M = some (atv B C o h, M) :=
  at_l cB cM cd r7 ho hh fu 0 0 (by omega) (by unfold fu; omega)
theorem over_l {B M : Mem} {C : Nat → Nat → Int32} {T mc o t : Nat} (x2 : Int32) (cB : CBv B C T) (cM : CMv M C T mc) (cd : Cbd C T) (r7 : R7 B M) (ho : o < 4) (ht : t ≤ T + 1) : ∀ (n h : Nat) (acc : Int32), h < 2 ^ 31 → t - h < n → lX0_over_6 n (nI o) x2 (nI t) acc (nI h) B = some (sa (atv B C o) acc h (t - h), B) ∧ lX9_laidOf_6 n (nI o) x2 (nI t) acc (nI h) M = some (sa (atv B C o) acc h (t - h), M) := by
  have hT := cB.2.1
  intro n
  induction n with
  | zero => intro h acc h0 h1; omega
  | succ n ih =>
    intro h acc h0 h1
    show gX0_over_6 (lX0_over_6 n) (nI o) x2 (nI t) acc (nI h) B = _ ∧ gX9_laidOf_6 (lX9_laidOf_6 n) (nI o) x2 (nI t) acc (nI h) M = _
    unfold gX0_over_6 gX9_laidOf_6
    by_cases e : t ≤ h
    · rw [if_pos (nI_le e h0), if_pos (nI_le e h0), show t - h = 0 by omega]
      exact ⟨rfl, rfl⟩
    · have g := nI_ge (show h < t by omega) (show t < 2 ^ 31 by omega)
      obtain ⟨p1, p2⟩ := at_v cB cM cd r7 ho (show h ≤ T by omega)
      rw [if_neg g, if_neg g, p1, p2, obi_s, obi_s, nI_1, show t - h = (t - (h + 1)) + 1 by omega]
      exact ih (h + 1) _ (by omega) (by omega)
theorem over_v {B M : Mem} {C : Nat → Nat → Int32} {T mc o f t : Nat} (cB : CBv B C T) (cM : CMv M C T mc) (cd : Cbd C T) (r7 : R7 B M) (ho : o < 4) (ht : t ≤ T + 1) (hf : f < 2 ^ 31) : fX0_over (nI o) (nI f) (nI t) B = some (sa (atv B C o) 0 f (t - f), B) ∧ fX9_laidOf (nI o) (nI f) (nI t) M = some (sa (atv B C o) 0 f (t - f), M) :=
  over_l (nI f) cB cM cd r7 ho ht fu f 0 hf (by have := cB.2.1; unfold fu; omega)
theorem op_laid : Op3 Rel fX8_laid fX9_laid := by
  rintro B M ⟨T, mc, kc, hR⟩ x1 x2 x3
  have hRel : Rel B M := ⟨T, mc, kc, hR⟩
  obtain ⟨cB, cM, cd⟩ := hR.C
  have r7 : R7 B M := hR.2.2.2.2.2.2.1
  have hT := cB.2.1
  unfold fX8_laid fX9_laid gX9_laid_26 fX3_now
  rcases own x1 with ⟨o, ho, rfl, e1, e2⟩ | ⟨e1, e2⟩
  · simp only [e1, e2, obi_s, i10]
    by_cases c0 : x2 < 0
    · rw [if_pos c0, if_pos c0]; exact ⟨_, B, M, rfl, rfl, hRel⟩
    · rw [if_neg c0, if_neg c0]
      by_cases c1 : x3 < x2
      · rw [if_pos c1, if_pos c1]; exact ⟨_, B, M, rfl, rfl, hRel⟩
      · rw [if_neg c1, if_neg c1, cB.1, cM.1, show nI T + 1 = nI (T + 1) from nI_1 T]
        by_cases c2 : x3 ≤ nI (T + 1)
        · rw [if_pos c2, if_pos c2]
          obtain ⟨f, hf, rfl⟩ := nI_of c0
          have c3 : ¬ x3 < 0 := fun q => by
            rw [lt_i] at q c1
            rw [nI_toInt hf] at c1
            have : (0 : Int32).toInt = 0 := rfl
            omega
          obtain ⟨t, ht, rfl⟩ := nI_of c3
          rw [nI_leI ht (by omega)] at c2
          obtain ⟨p1, p2⟩ := over_v cB cM cd r7 ho c2 hf
          rw [p1, p2, obi_s, obi_s]
          exact ⟨_, B, M, rfl, rfl, hRel⟩
        · rw [if_neg c2, if_neg c2]; exact ⟨_, B, M, rfl, rfl, hRel⟩
  · simp only [e1, e2, obi_s, i00]
    exact ⟨_, B, M, rfl, rfl, hRel⟩
/-- the least, or the greatest -/
def bst (hi : Bool) (f : Nat → Int32) (acc : Int32) (a : Nat) : Nat → Int32
  | 0 => acc
  | n + 1 => bst hi f (if hi then (if acc < f a then f a else acc) else (if f a < acc then f a else acc)) (a + 1) n
theorem bst_bd {f : Nat → Int32} {hi : Bool} {m : Nat} : ∀ (n a : Nat) (acc : Int32), (∃ c, c ≤ m ∧ acc = nI c) → (∀ k, a ≤ k → k < a + n → ∃ c, c ≤ m ∧ f k = nI c) → ∃ c, c ≤ m ∧ bst hi f acc a n = nI c
  | 0, _, _, h, _ => h
  | n + 1, a, acc, h, hf => by
    rw [bst]
    refine bst_bd n (a + 1) _ ?_ (fun k h1 h2 => hf k (by omega) (by omega))
    have ha := hf a (by omega) (by omega)
    cases hi
    · by_cases c : f a < acc
      · simp only [if_pos c]; exact ha
      · simp only [if_neg c]; exact h
    · by_cases c : acc < f a
      · simp only [if_pos c]; exact ha
      · simp only [if_neg c]; exact h
theorem least_l {B : Mem} {C : Nat → Nat → Int32} {T s : Nat} (cB : CBv B C T) (hs : s < 6) : ∀ (n h : Nat) (acc : Int32), h ≤ T → T - h < n → lX3_leastOfLastDay_15 n (nI s) acc (nI h) B = some (bst false (C s) acc h (T - h), B) ∧ lX3_greatestOfLastDay_15 n (nI s) acc (nI h) B = some (bst true (C s) acc h (T - h), B) := by
  have hT := cB.2.1
  intro n
  induction n with
  | zero => intro h acc h0 h1; omega
  | succ n ih =>
    intro h acc h0 h1
    show gX3_leastOfLastDay_15 (lX3_leastOfLastDay_15 n) (nI s) acc (nI h) B = _ ∧ gX3_greatestOfLastDay_15 (lX3_greatestOfLastDay_15 n) (nI s) acc (nI h) B = _
    unfold gX3_leastOfLastDay_15 gX3_greatestOfLastDay_15
    rw [cB.1]
    by_cases e : h = T
    · subst e
      have g := nI_le (Nat.le_refl h) (show h < 2 ^ 31 by omega)
      rw [if_pos g, if_pos g, Nat.sub_self]
      exact ⟨rfl, rfl⟩
    · have g := nI_ge (show h < T by omega) (show T < 2 ^ 31 by omega)
      rw [if_neg g, if_neg g, costB cB hs h0, obi_s, obi_s, nI_1, show T - h = (T - (h + 1)) + 1 by omega]
      exact ⟨(ih (h + 1) _ (by omega) (by omega)).1, (ih (h + 1) _ (by omega) (by omega)).2⟩
theorem first_v {B : Mem} {T : Nat} (hB : B 1 3 = nI T) (hT : T < 2000) : fX3_firstOfLastDay B = some (nI (T - 23), B) := by
  unfold fX3_firstOfLastDay
  rw [hB]
  have e : nI T - 24 + 1 = nI T - nI 23 := by
    have : (nI 23 : Int32) = 23 := rfl
    rw [this]
    grind
  rw [e]
  by_cases c : 23 ≤ T
  · rw [pk_sub c]
    by_cases c1 : T = 23
    · subst c1
      rfl
    · rw [if_pos (show (0 : Int32) < nI (T - 23) from nI_lt (a := 0) (by omega) (by omega))]
  · rw [if_neg, show T - 23 = 0 by omega]
    · rfl
    · rw [lt_i, pk_sub_toInt (by omega) (by decide)]
      have : (0 : Int32).toInt = 0 := rfl
      omega
def bsv (C : Nat → Nat → Int32) (T : Nat) (hi : Bool) (s : Nat) : Int32 := bst hi (C s) (C s T) (T - 23) (T - (T - 23))
theorem bsB {B : Mem} {C : Nat → Nat → Int32} {T s : Nat} (cB : CBv B C T) (hs : s < 6) : fX3_leastOfLastDay (nI s) B = some (bsv C T false s, B) ∧ fX3_greatestOfLastDay (nI s) B = some (bsv C T true s, B) := by
  have hT := cB.2.1
  unfold fX3_leastOfLastDay fX3_greatestOfLastDay
  rw [cB.1, costB cB hs (Nat.le_refl T), obi_s, obi_s, first_v cB.1 hT, obi_s, obi_s]
  exact least_l cB hs fu (T - 23) (C s T) (by omega) (by unfold fu; omega)
theorem bsv_bd {C : Nat → Nat → Int32} {T s : Nat} {hi : Bool} (cd : Cbd C T) (hs : s < 6) : ∃ c, c ≤ 139959 ∧ bsv C T hi s = nI c :=
  bst_bd _ _ _ (cd s T hs (Nat.le_refl T)) (fun k _ h2 => cd s k hs (by omega))
def fcv (B : Mem) (C : Nat → Nat → Int32) (T : Nat) (hi : Bool) (o : Nat) : Int32 := sa (fun s => PB B s o (bsv C T hi s)) 0 0 6
theorem fcB_l {B M : Mem} {C : Nat → Nat → Int32} {T o : Nat} (cB : CBv B C T) (cd : Cbd C T) (r7 : R7 B M) (ho : o < 4) : ∀ (n s : Nat) (acc : Int32), s ≤ 6 → 6 - s < n → lX0_forecastLow_4 n (nI o) acc (nI s) B = some (sa (fun s => PB B s o (bsv C T false s)) acc s (6 - s), B) := by
  intro n
  induction n with
  | zero => intro s acc h1 h2; omega
  | succ n ih =>
    intro s acc h1 h2
    show gX0_forecastLow_4 (lX0_forecastLow_4 n) (nI o) acc (nI s) B = _
    unfold gX0_forecastLow_4
    by_cases e : s = 6
    · subst e
      rw [if_pos (show (6 : Int32) ≤ nI 6 by decide)]
      rfl
    · have hs : s < 6 := by omega
      obtain ⟨c, hc, ec⟩ := bsv_bd (hi := false) cd hs
      rw [if_neg (show ¬ (6 : Int32) ≤ nI s from nI_ge (b := 6) hs (by decide)), (bsB cB hs).1, obi_s, ec, (part_eq r7 hs ho hc).1, obi_s, nI_1, show 6 - s = (6 - (s + 1)) + 1 by omega, sa, ec]
      exact ih (s + 1) _ (by omega) (by omega)
theorem fcB_h {B M : Mem} {C : Nat → Nat → Int32} {T o : Nat} (cB : CBv B C T) (cd : Cbd C T) (r7 : R7 B M) (ho : o < 4) : ∀ (n s : Nat) (acc : Int32), s ≤ 6 → 6 - s < n → lX0_forecastHigh_4 n (nI o) acc (nI s) B = some (sa (fun s => PB B s o (bsv C T true s)) acc s (6 - s), B) := by
  intro n
  induction n with
  | zero => intro s acc h1 h2; omega
  | succ n ih =>
    intro s acc h1 h2
    show gX0_forecastHigh_4 (lX0_forecastHigh_4 n) (nI o) acc (nI s) B = _
    unfold gX0_forecastHigh_4
    by_cases e : s = 6
    · subst e
      rw [if_pos (show (6 : Int32) ≤ nI 6 by decide)]
      rfl
    · have hs : s < 6 := by omega
      obtain ⟨c, hc, ec⟩ := bsv_bd (hi := true) cd hs
      rw [if_neg (show ¬ (6 : Int32) ≤ nI s from nI_ge (b := 6) hs (by decide)), (bsB cB hs).2, obi_s, ec, (part_eq r7 hs ho hc).1, obi_s, nI_1, show 6 - s = (6 - (s + 1)) + 1 by omega, sa, ec]
      exact ih (s + 1) _ (by omega) (by omega)
theorem fcB {B M : Mem} {C : Nat → Nat → Int32} {T o : Nat} (cB : CBv B C T) (cd : Cbd C T) (r7 : R7 B M) (ho : o < 4) : fX0_forecastLow (nI o) B = some (fcv B C T false o, B) ∧ fX0_forecastHigh (nI o) B = some (fcv B C T true o, B) :=
  ⟨fcB_l cB cd r7 ho fu 0 0 (by omega) (by unfold fu; omega), fcB_h cB cd r7 ho fu 0 0 (by omega) (by unfold fu; omega)⟩
theorem fcM_i {M : Mem} {C : Nat → Nat → Int32} {T mc s : Nat} (K : Int32 → Int32 → Int32 → Int32 → Mem → Res) (x1 x3 : Int32) (hi : Bool) (r : Res) (cM : CMv M C T mc) (hs : s < 6) : ∀ (n h : Nat) (acc : Int32), h ≤ T → T - h < n → (obi (fX9_part (nI s) (bst hi (C s) acc h (T - h)) x1 M) (fun r_103 M_103 => K x1 (if hi then 1 else 0) (x3 + r_103) (nI s + 1) M_103)) = r → lX9_foretold_46 K n x1 (if hi then 1 else 0) x3 (nI s) acc (nI h) M = r := by
  have hT := cM.2.1
  intro n
  induction n with
  | zero => intro h acc h0 h1; omega
  | succ n ih =>
    intro h acc h0 h1 hr
    show gX9_foretold_46 K (lX9_foretold_46 K n) x1 (if hi then 1 else 0) x3 (nI s) acc (nI h) M = r
    unfold gX9_foretold_46 gX9_foretold_86 gX9_foretold_90
    rw [cM.1]
    by_cases e : h = T
    · subst e
      rw [if_pos (nI_le (Nat.le_refl h) (by omega))]
      rw [Nat.sub_self] at hr
      exact hr
    · rw [if_neg (nI_ge (show h < T by omega) (show T < 2 ^ 31 by omega)), costM cM hs h0, obi_s, nI_1]
      rw [show T - h = (T - (h + 1)) + 1 by omega, bst] at hr
      cases hi
      · simp only [Bool.false_eq_true, if_false] at hr ih ⊢
        rw [if_pos trivial]
        by_cases c : acc ≤ C s h
        · rw [if_pos c]
          rw [if_neg (show ¬ C s h < acc by rw [lt_i]; rw [le_i] at c; omega)] at hr
          exact ih (h + 1) acc (by omega) (by omega) hr
        · rw [if_neg c]
          rw [if_pos (show C s h < acc by rw [lt_i]; rw [le_i] at c; omega)] at hr
          exact ih (h + 1) (C s h) (by omega) (by omega) hr
      · simp only [if_true] at hr ih ⊢
        rw [i10]
        by_cases c : C s h ≤ acc
        · rw [if_pos c]
          rw [if_neg (show ¬ acc < C s h by rw [lt_i]; rw [le_i] at c; omega)] at hr
          exact ih (h + 1) acc (by omega) (by omega) hr
        · rw [if_neg c]
          rw [if_pos (show acc < C s h by rw [lt_i]; rw [le_i] at c; omega)] at hr
          exact ih (h + 1) (C s h) (by omega) (by omega) hr
theorem fcM_l {B M : Mem} {C : Nat → Nat → Int32} {T mc o : Nat} (hi : Bool) (cM : CMv M C T mc) (cd : Cbd C T) (r7 : R7 B M) (ho : o < 4) : ∀ (n s : Nat) (acc : Int32), s ≤ 6 → 6 - s < n → lX9_foretold_5 n (nI o) (if hi then 1 else 0) acc (nI s) M = some (sa (fun s => PB B s o (bsv C T hi s)) acc s (6 - s), M) := by
  have hT := cM.2.1
  intro n
  induction n with
  | zero => intro s acc h1 h2; omega
  | succ n ih =>
    intro s acc h1 h2
    show gX9_foretold_5 (lX9_foretold_5 n) (nI o) (if hi then 1 else 0) acc (nI s) M = _
    unfold gX9_foretold_5 gX9_foretold_44
    by_cases e : s = 6
    · subst e
      rw [if_pos (show (6 : Int32) ≤ nI 6 by decide)]
      rfl
    · have hs : s < 6 := by omega
      obtain ⟨c, hc, ec⟩ := bsv_bd (hi := hi) cd hs
      rw [if_neg (show ¬ (6 : Int32) ≤ nI s from nI_ge (b := 6) hs (by decide)), cM.1, costM cM hs (Nat.le_refl T), obi_s, cM.1]
      have key : lX9_foretold_46 (lX9_foretold_5 n) fu (nI o) (if hi then 1 else 0) acc (nI s) (C s T) (nI (T - 23)) M = some (sa (fun s => PB B s o (bsv C T hi s)) acc s (6 - s), M) := by
        refine fcM_i _ (nI o) acc hi _ cM hs fu (T - 23) (C s T) (by omega) (by unfold fu; omega) ?_
        rw [show bst hi (C s) (C s T) (T - 23) (T - (T - 23)) = bsv C T hi s from rfl, ec, (part_eq r7 hs ho hc).2, obi_s, nI_1, show 6 - s = (6 - (s + 1)) + 1 by omega, sa, ec]
        exact ih (s + 1) _ (by omega) (by omega)
      by_cases c : nI T ≤ 23
      · rw [if_pos c]
        have : T ≤ 23 := (nI_leI (b := 23) (by omega) (by decide)).mp c
        rw [show T - 23 = 0 by omega] at key
        exact key
      · rw [if_neg c]
        have : ¬ T ≤ 23 := fun q => c (nI_le (b := 23) q (by decide))
        rw [show nI T - 23 = nI (T - 23) from pk_sub (b := 23) (by omega)]
        exact key

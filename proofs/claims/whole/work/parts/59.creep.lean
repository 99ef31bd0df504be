def cmpI (x y : Int32) : Int32 := if y ≤ x then (if x = y then 0 else 1) else -1
def dv (C : Nat → Nat → Int32) (s d : Nat) : Int32 := sa (C s) 0 (24 * d) 24
theorem sa_shift (g : Nat → Int32) (c : Nat) : ∀ (n a : Nat) (acc : Int32), sa (fun i => g (c + i)) acc a n = sa g acc (c + a) n
  | 0, _, _ => rfl
  | n + 1, a, acc => by
    rw [sa, sa, sa_shift g c n (a + 1)]
    rfl
theorem sa_bd {g : Nat → Int32} {m : Nat} : ∀ (n a k : Nat) (acc : Int32), acc = nI k → (∀ i, a ≤ i → i < a + n → ∃ c, c ≤ m ∧ g i = nI c) → ∃ c, c ≤ k + m * n ∧ sa g acc a n = nI c
  | 0, _, k, acc, h, _ => ⟨k, by omega, h⟩
  | n + 1, a, k, acc, h, hg => by
    obtain ⟨c, hc, ec⟩ := hg a (by omega) (by omega)
    rw [sa, h, ec, nI_add]
    obtain ⟨c2, h2, e2⟩ := sa_bd n (a + 1) (k + c) (nI (k + c)) rfl (fun i h1 h2 => hg i (by omega) (by omega))
    refine ⟨c2, ?_, e2⟩
    rw [Nat.mul_succ]
    omega
theorem dv_bd {C : Nat → Nat → Int32} {T s d : Nat} (cd : Cbd C T) (hs : s < 6) (hd : 24 * d + 23 ≤ T) : ∃ c, c ≤ 3359016 ∧ dv C s d = nI c := by
  obtain ⟨c, h1, h2⟩ := sa_bd (g := C s) (m := 139959) 24 (24 * d) 0 0 rfl (fun i h1 h2 => cd s i hs (by omega))
  exact ⟨c, by omega, h2⟩
theorem i24 (a b : Nat) : nI a * 24 + nI b = nI (24 * a + b) := by
  rw [show (24 : Int32) = nI 24 from rfl, pk_mul, nI_add, Nat.mul_comm]
theorem dayB_l {B : Mem} {C : Nat → Nat → Int32} {T s d : Nat} (cB : CBv B C T) (hs : s < 6) (hd : 24 * d + 23 ≤ T) : ∀ (n i : Nat) (acc : Int32), i ≤ 24 → 24 - i < n → lX3_costOfDay_5 n (nI s) (nI d) acc (nI i) B = some (sa (fun i => C s (24 * d + i)) acc i (24 - i), B) := by
  intro n
  induction n with
  | zero => intro i acc h1 h2; omega
  | succ n ih =>
    intro i acc h1 h2
    show gX3_costOfDay_5 (lX3_costOfDay_5 n) (nI s) (nI d) acc (nI i) B = _
    unfold gX3_costOfDay_5
    by_cases e : i = 24
    · subst e
      rw [if_pos (show (24 : Int32) ≤ nI 24 by decide)]
      rfl
    · rw [if_neg (show ¬ (24 : Int32) ≤ nI i from nI_ge (b := 24) (by omega) (by decide)), i24, costB cB hs (by omega), obi_s, nI_1, show 24 - i = (24 - (i + 1)) + 1 by omega]
      exact ih (i + 1) _ (by omega) (by omega)
theorem dayB {B : Mem} {C : Nat → Nat → Int32} {T s d : Nat} (cB : CBv B C T) (hs : s < 6) (hd : 24 * d + 23 ≤ T) : fX3_costOfDay (nI s) (nI d) B = some (dv C s d, B) := by
  have h := dayB_l cB hs hd fu 0 0 (by omega) (by unfold fu; omega)
  rw [sa_shift] at h
  exact h
theorem dayM_l {M : Mem} {C : Nat → Nat → Int32} {T mc s d : Nat} (cM : CMv M C T mc) (hs : s < 6) (hd : 24 * d + 23 ≤ T) : ∀ (n i : Nat) (acc : Int32), i ≤ 24 → 24 - i < n → lX9_dayCost_8 n (nI s) (nI d) acc (nI (24 * d + i)) M = some (sa (C s) acc (24 * d + i) (24 - i), M) := by
  have hT := cM.2.1
  intro n
  induction n with
  | zero => intro i acc h1 h2; omega
  | succ n ih =>
    intro i acc h1 h2
    show gX9_dayCost_8 (lX9_dayCost_8 n) (nI s) (nI d) acc (nI (24 * d + i)) M = _
    unfold gX9_dayCost_8
    rw [show (24 : Int32) * nI d + 24 = nI (24 * d + 24) by rw [show (24 : Int32) = nI 24 from rfl, pk_mul, nI_add]]
    by_cases e : i = 24
    · subst e
      rw [if_pos (nI_le (Nat.le_refl _) (by omega))]
      rfl
    · rw [if_neg (nI_ge (by omega) (by omega)), costM cM hs (by omega), obi_s, nI_1, show 24 - i = (24 - (i + 1)) + 1 by omega]
      exact ih (i + 1) _ (by omega) (by omega)
theorem dayM {M : Mem} {C : Nat → Nat → Int32} {T mc s d : Nat} (cM : CMv M C T mc) (hs : s < 6) (hd : 24 * d + 23 ≤ T) : fX9_dayCost (nI s) (nI d) M = some (dv C s d, M) := by
  have h := dayM_l cM hs hd fu 0 0 (by omega) (by unfold fu; omega)
  unfold fX9_dayCost
  rw [show (24 : Int32) * nI d = nI (24 * d + 0) by rw [show (24 : Int32) = nI 24 from rfl, pk_mul]; rfl]
  exact h
def eX7 (B : Mem) : Res := obi (fX7_rise B) (fun r_32 M_32 => (if r_32 < (15 : Int32) then some ((0 : Int32), M_32) else (if ((10 : Int32) * (M_32 13 (Int32.toNatClampNeg (6 : Int32)))) ≤ ((11 : Int32) * (M_32 13 (Int32.toNatClampNeg (0 : Int32)))) then some ((0 : Int32), M_32) else some ((1 : Int32), M_32))))
theorem creepB_l {C : Nat → Nat → Int32} {T s fd : Nat} (hs : s < 6) (hd : 24 * (fd + 6) + 23 ≤ T) : ∀ (n i : Nat) (B : Mem), CBv B C T → i ≤ 7 → 7 - i < n → ∃ B' : Mem, (∀ k, k ≠ 13 → B' k = B k) ∧ (∀ j, j < 7 → B' 13 j = if j < i then B 13 j else dv C s (fd + j)) ∧ lX7_isCreeping_2 n (nI s) (nI fd) (nI i) B = eX7 B' := by
  intro n
  induction n with
  | zero => intro i B cB h1 h2; omega
  | succ n ih =>
    intro i B cB h1 h2
    show ∃ B' : Mem, _ ∧ _ ∧ gX7_isCreeping_2 (lX7_isCreeping_2 n) (nI s) (nI fd) (nI i) B = _
    unfold gX7_isCreeping_2
    by_cases e : i = 7
    · subst e
      refine ⟨B, fun _ _ => rfl, fun j hj => by rw [if_pos hj], ?_⟩
      rw [if_pos (show (7 : Int32) ≤ nI 7 by decide)]
      rfl
    · rw [if_neg (show ¬ (7 : Int32) ≤ nI i from nI_ge (b := 7) (by omega) (by decide)), nI_add, dayB cB hs (by omega), obi_s, if_neg (gd (show i < 7 by omega) (by decide)), nI_clamp (by omega), nI_1]
      obtain ⟨B', a, b, c⟩ := ih (i + 1) (upM B 13 i (dv C s (fd + i))) (cB.of rfl rfl rfl rfl) (by omega) (by omega)
      refine ⟨B', fun k hk => by rw [a k hk, upM_ne _ _ _ hk], fun j hj => ?_, c⟩
      rw [b j hj, upM_eq]
      by_cases e1 : j = i
      · subst e1
        rw [if_pos (by omega), upd_eq, if_neg (by omega)]
      · rw [upd_ne _ _ e1]
        by_cases e2 : j < i
        · rw [if_pos e2, if_pos (by omega)]
        · rw [if_neg e2, if_neg (by omega)]
theorem creepM_l {C : Nat → Nat → Int32} {T mc s ov : Nat} (hs : s < 6) (hov : 7 ≤ ov) (hd : 24 * ov ≤ T) : ∀ (n i : Nat) (M : Mem), CMv M C T mc → i ≤ 7 → 7 - i < n → ∃ M' : Mem, (∀ k, k ≠ 9 → M' k = M k) ∧ (∀ j, j < 7 → M' 9 j = if j < i then M 9 j else dv C s (ov - 7 + j)) ∧ lX9_creeps_25 n (nI s) (nI ov) (nI i) M = lX9_creeps_59 fu (nI s) (nI ov) 0 0 M' := by
  intro n
  induction n with
  | zero => intro i M cM h1 h2; omega
  | succ n ih =>
    intro i M cM h1 h2
    show ∃ M' : Mem, _ ∧ _ ∧ gX9_creeps_25 (lX9_creeps_25 n) (nI s) (nI ov) (nI i) M = _
    unfold gX9_creeps_25
    by_cases e : i = 7
    · subst e
      refine ⟨M, fun _ _ => rfl, fun j hj => by rw [if_pos hj], ?_⟩
      rw [if_pos (show (7 : Int32) ≤ nI 7 by decide)]
    · rw [if_neg (show ¬ (7 : Int32) ≤ nI i from nI_ge (b := 7) (by omega) (by decide)), show nI ov - 7 + nI i = nI (ov - 7 + i) by rw [show (7 : Int32) = nI 7 from rfl, pk_sub hov, nI_add], dayM cM hs (by omega), obi_s, if_neg (gd (show i < 7 by omega) (by decide)), nI_clamp (by omega), nI_1]
      obtain ⟨M', a, b, c⟩ := ih (i + 1) (upM M 9 i (dv C s (ov - 7 + i))) (cM.of rfl rfl rfl rfl rfl rfl rfl) (by omega) (by omega)
      refine ⟨M', fun k hk => by rw [a k hk, upM_ne _ _ _ hk], fun j hj => ?_, c⟩
      rw [b j hj, upM_eq]
      by_cases e1 : j = i
      · subst e1
        rw [if_pos (by omega), upd_eq, if_neg (by omega)]
      · rw [upd_ne _ _ e1]
        by_cases e2 : j < i
        · rw [if_pos e2, if_pos (by omega)]
        · rw [if_neg e2, if_neg (by omega)]
theorem cmp_v (x y : Int32) (M : Mem) : fJ6_compare_7cf53 x y M = some (cmpI x y, M) := by
  unfold fJ6_compare_7cf53 cmpI
  by_cases c : y ≤ x
  · rw [if_pos c, if_pos c]
    by_cases c1 : x = y
    · rw [if_pos c1, if_pos c1]
    · rw [if_neg c1, if_neg c1]
  · rw [if_neg c, if_neg c]
theorem riseB_i {B : Mem} {d : Nat → Int32} (hd : ∀ j, j < 7 → B 13 j = d j) (K : Int32 → Int32 → Mem → Res) {l : Nat} (hl : l < 7) : ∀ (n e : Nat) (acc : Int32), e ≤ l → l - e < n → lX7_rise_12 K n acc (nI l) (nI e) B = K (sa (fun e => cmpI (d l) (d e)) acc e (l - e)) (nI l + 1) B := by
  intro n
  induction n with
  | zero => intro e acc h1 h2; omega
  | succ n ih =>
    intro e acc h1 h2
    show gX7_rise_12 K (lX7_rise_12 K n) acc (nI l) (nI e) B = _
    unfold gX7_rise_12
    by_cases q : e = l
    · subst q
      rw [if_pos (nI_le (Nat.le_refl e) (by omega)), Nat.sub_self]
      rfl
    · rw [if_neg (nI_ge (show e < l by omega) (by omega)), if_neg (gd (show l < 7 from hl) (by decide)), if_neg (gd (show e < 7 by omega) (by decide)), nI_clamp (by omega), nI_clamp (by omega), cmp_v, obi_s, hd l hl, hd e (by omega), show nI e + 1 = nI (e + 1) from nI_1 e, show l - e = (l - (e + 1)) + 1 by omega]
      exact ih (e + 1) _ (by omega) (by omega)
def ro (d : Nat → Int32) (acc : Int32) (l : Nat) : Nat → Int32
  | 0 => acc
  | n + 1 => ro d (sa (fun e => cmpI (d l) (d e)) acc 0 l) (l + 1) n
def mo (d : Nat → Int32) (acc : Int32) (a : Nat) : Nat → Int32
  | 0 => acc
  | n + 1 => mo d (sa (fun b => cmpI (d b) (d a)) acc (a + 1) (6 - a)) (a + 1) n
theorem riseB_o {B : Mem} {d : Nat → Int32} (hd : ∀ j, j < 7 → B 13 j = d j) : ∀ (n l : Nat) (acc : Int32), l ≤ 7 → 7 - l < n → lX7_rise_4 n acc (nI l) B = some (ro d acc l (7 - l), B) := by
  intro n
  induction n with
  | zero => intro l acc h1 h2; omega
  | succ n ih =>
    intro l acc h1 h2
    show gX7_rise_4 (lX7_rise_4 n) acc (nI l) B = _
    unfold gX7_rise_4
    by_cases q : l = 7
    · subst q
      rw [if_pos (show (7 : Int32) ≤ nI 7 by decide)]
      rfl
    · rw [if_neg (show ¬ (7 : Int32) ≤ nI l from nI_ge (b := 7) (by omega) (by decide)), show (0 : Int32) = nI 0 from rfl, riseB_i hd (lX7_rise_4 n) (show l < 7 by omega) fu 0 acc (by omega) (by unfold fu; omega), nI_1, ih (l + 1) _ (by omega) (by omega), show 7 - l = (7 - (l + 1)) + 1 by omega]
      rfl
theorem cmpM (x y : Int32) : (if x ≤ y then (if y ≤ x then (0 : Int32) else -1) else 1) = cmpI x y := by
  unfold cmpI
  by_cases c : x ≤ y
  · rw [if_pos c]
    by_cases c1 : y ≤ x
    · have : x = y := Int32.le_antisymm c c1
      rw [if_pos c1, if_pos c1, if_pos this]
    · rw [if_neg c1, if_neg c1]
  · have h1 : y ≤ x := by rw [le_i] at c ⊢; omega
    have h2 : ¬ x = y := fun e => c (by rw [e]; exact Int32.le_refl _)
    rw [if_neg c, if_pos h1, if_neg h2]
theorem riseM_i {M : Mem} {d : Nat → Int32} (hd : ∀ j, j < 7 → M 9 j = d j) (K : Int32 → Int32 → Int32 → Int32 → Mem → Res) (x1 x2 : Int32) {a : Nat} (ha : a < 7) : ∀ (n b : Nat) (acc : Int32), b ≤ 7 → 7 - b < n → lX9_creeps_72 K n x1 x2 acc (nI a) (nI b) M = K x1 x2 (sa (fun b => cmpI (d b) (d a)) acc b (7 - b)) (nI a + 1) M := by
  intro n
  induction n with
  | zero => intro b acc h1 h2; omega
  | succ n ih =>
    intro b acc h1 h2
    show gX9_creeps_72 K (lX9_creeps_72 K n) x1 x2 acc (nI a) (nI b) M = _
    unfold gX9_creeps_72 gX9_creeps_123
    by_cases q : b = 7
    · subst q
      rw [if_pos (show (7 : Int32) ≤ nI 7 by decide)]
      rfl
    · rw [if_neg (show ¬ (7 : Int32) ≤ nI b from nI_ge (b := 7) (by omega) (by decide)), if_neg (gd (show b < 7 by omega) (by decide)), if_neg (gd (show a < 7 from ha) (by decide)), nI_clamp (by omega), nI_clamp (by omega), hd a ha, hd b (by omega), show nI b + 1 = nI (b + 1) from nI_1 b, show 7 - b = (7 - (b + 1)) + 1 by omega, sa, ← cmpM]
      by_cases c : d b ≤ d a
      · rw [if_pos c, if_pos c]
        by_cases c1 : d a ≤ d b
        · rw [if_pos c1, if_pos c1]
          exact ih (b + 1) _ (by omega) (by omega)
        · rw [if_neg c1, if_neg c1]
          exact ih (b + 1) _ (by omega) (by omega)
      · rw [if_neg c, if_neg c]
        exact ih (b + 1) _ (by omega) (by omega)
def eX9 (x3 : Int32) (M : Mem) : Res := (if x3 < (15 : Int32) then some ((0 : Int32), M) else (if (lg_cmp ((10 : Int64) * (Int32.toInt64 (M 9 (Int32.toNatClampNeg (6 : Int32))))) ((11 : Int64) * (Int32.toInt64 (M 9 (Int32.toNatClampNeg (0 : Int32)))))) ≤ 0 then some ((0 : Int32), M) else some ((1 : Int32), M)))
theorem riseM_o {M : Mem} {d : Nat → Int32} (hd : ∀ j, j < 7 → M 9 j = d j) (x1 x2 : Int32) : ∀ (n a : Nat) (acc : Int32), a ≤ 7 → 7 - a < n → lX9_creeps_59 n x1 x2 acc (nI a) M = eX9 (mo d acc a (7 - a)) M := by
  intro n
  induction n with
  | zero => intro a acc h1 h2; omega
  | succ n ih =>
    intro a acc h1 h2
    show gX9_creeps_59 (lX9_creeps_59 n) x1 x2 acc (nI a) M = _
    unfold gX9_creeps_59
    by_cases q : a = 7
    · subst q
      rw [if_pos (show (7 : Int32) ≤ nI 7 by decide)]
      rfl
    · rw [if_neg (show ¬ (7 : Int32) ≤ nI a from nI_ge (b := 7) (by omega) (by decide)), nI_1, riseM_i hd (lX9_creeps_59 n) x1 x2 (show a < 7 by omega) fu (a + 1) acc (by omega) (by unfold fu; omega), nI_1, ih (a + 1) _ (by omega) (by omega), show 7 - a = (7 - (a + 1)) + 1 by omega, show 7 - (a + 1) = 6 - a by omega]
      rfl
theorem ro_mo (d : Nat → Int32) : ro d 0 1 6 = mo d 0 0 7 := by
  simp only [ro, mo, sa, Nat.sub_self, Nat.zero_add, Nat.reduceAdd, Nat.reduceSub]
  ac_rfl
theorem lgc {a b : Nat} (ha : a < 2 ^ 31) (hb : b < 2 ^ 31) : lg_cmp (lN a) (lN b) ≤ 0 ↔ a ≤ b := by
  unfold lg_cmp
  by_cases c : b < a
  · rw [if_pos (show lN a > lN b from (lN_lt hb ha).mpr c)]
    constructor
    · intro h; exact absurd h (by decide)
    · intro h; omega
  · rw [if_neg (show ¬ lN a > lN b from fun h => c ((lN_lt hb ha).mp h))]
    constructor
    · intro _; omega
    · intro _
      by_cases c1 : lN a = lN b
      · rw [if_pos c1]; decide
      · rw [if_neg c1]; decide
theorem op_creeps : Op1 Rel fX8_creeps fX9_creeps := by
  rintro B M ⟨T, mc, kc, hR⟩ x1
  have hRel : Rel B M := ⟨T, mc, kc, hR⟩
  obtain ⟨cB, cM, cd⟩ := hR.C
  have hT := cB.2.1
  have h24 : nI T / 24 = nI (T / 24) := pk_div (d := 24) (by omega) (by decide) (by decide)
  unfold fX8_creeps fX9_creeps fX3_now
  rcases svc x1 with ⟨s, hs, rfl, e1, e2⟩ | ⟨e1, e2⟩
  · simp only [e1, e2, obi_s, i10, cB.1, cM.1, h24]
    by_cases c : 7 ≤ T / 24
    · have c' : (7 : Int32) ≤ nI (T / 24) := nI_le (a := 7) c (by omega)
      rw [if_pos c', if_pos c', show nI (T / 24) - 7 = nI (T / 24 - 7) from pk_sub (b := 7) c]
      unfold fX7_isCreeping
      obtain ⟨B', b1, b2, b3⟩ := creepB_l (C := fun s h => costs M s h mc) (T := T) (s := s) (fd := T / 24 - 7) hs (by omega) fu 0 B cB (by omega) (by unfold fu; omega)
      obtain ⟨M', m1, m2, m3⟩ := creepM_l (C := fun s h => costs M s h mc) (T := T) (mc := mc) (s := s) (ov := T / 24) hs c (by omega) fu 0 M cM (by omega) (by unfold fu; omega)
      have hR' : Rel B' M' := ⟨T, mc, kc, Rel.scr hR (fun k _ _ h => b1 k h) (fun k _ h _ => m1 k h) (fun j _ => by rw [m1 0 (by decide)])⟩
      have hdB : ∀ j, j < 7 → B' 13 j = dv (fun s h => costs M s h mc) s (T / 24 - 7 + j) := fun j hj => by rw [b2 j hj, if_neg (by omega)]
      have hdM : ∀ j, j < 7 → M' 9 j = dv (fun s h => costs M s h mc) s (T / 24 - 7 + j) := fun j hj => by rw [m2 j hj, if_neg (by omega)]
      have hr1 : fX7_rise B' = some (ro (fun j => dv (fun s h => costs M s h mc) s (T / 24 - 7 + j)) 0 1 6, B') := riseB_o (d := fun j => dv (fun s h => costs M s h mc) s (T / 24 - 7 + j)) hdB fu 1 0 (by omega) (by unfold fu; omega)
      have hr2 := riseM_o (d := fun j => dv (fun s h => costs M s h mc) s (T / 24 - 7 + j)) hdM (nI s) (nI (T / 24)) fu 0 0 (by omega) (by unfold fu; omega)
      rw [show lX7_isCreeping_2 fu (nI s) (nI (T / 24 - 7)) 0 B = eX7 B' from b3, show lX9_creeps_25 fu (nI s) (nI (T / 24)) 0 M = lX9_creeps_59 fu (nI s) (nI (T / 24)) 0 0 M' from m3, show lX9_creeps_59 fu (nI s) (nI (T / 24)) 0 0 M' = _ from hr2]
      unfold eX7 eX9
      rw [hr1, obi_s, ro_mo, Nat.sub_zero]
      generalize mo (fun j => dv (fun s h => costs M s h mc) s (T / 24 - 7 + j)) 0 0 7 = v
      rw [show Int32.toNatClampNeg (6 : Int32) = 6 from rfl, show Int32.toNatClampNeg (0 : Int32) = 0 from rfl, hdB 6 (by decide), hdB 0 (by decide), hdM 6 (by decide), hdM 0 (by decide)]
      obtain ⟨a, ha, ea⟩ := dv_bd (s := s) (d := T / 24 - 7 + 6) cd hs (by omega)
      obtain ⟨b, hb, eb⟩ := dv_bd (s := s) (d := T / 24 - 7 + 0) cd hs (by omega)
      rw [ea, eb, nI_l (by omega), nI_l (by omega), show (10 : Int64) * lN a = lN (10 * a) from lN_mul 10 a, show (11 : Int64) * lN b = lN (11 * b) from lN_mul 11 b, show (10 : Int32) * nI a = nI (10 * a) from pk_mul 10 a, show (11 : Int32) * nI b = nI (11 * b) from pk_mul 11 b]
      by_cases c1 : v < 15
      · rw [if_pos c1, if_pos c1, obi_s, i00]
        exact ⟨0, B', M', rfl, rfl, hR'⟩
      · rw [if_neg c1, if_neg c1]
        by_cases c2 : 10 * a ≤ 11 * b
        · rw [if_pos (nI_le c2 (by omega)), if_pos ((lgc (by omega) (by omega)).mpr c2), obi_s, i00]
          exact ⟨0, B', M', rfl, rfl, hR'⟩
        · rw [if_neg (fun q => c2 ((nI_leI (by omega) (by omega)).mp q)), if_neg (fun q => c2 ((lgc (by omega) (by omega)).mp q)), obi_s, i10]
          exact ⟨1, B', M', rfl, rfl, hR'⟩
    · have c' : ¬ (7 : Int32) ≤ nI (T / 24) := fun q => c ((nI_leI (a := 7) (by decide) (by omega)).mp q)
      rw [if_neg c', if_neg c']
      exact ⟨_, B, M, rfl, rfl, hRel⟩
  · simp only [e1, e2, obi_s, i00]
    exact ⟨_, B, M, rfl, rfl, hRel⟩

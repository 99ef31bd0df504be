def sa (f : Nat → Int32) (acc : Int32) (a : Nat) : Nat → Int32
  | 0 => acc
  | n + 1 => sa f (acc + f a) (a + 1) n
def qo (sh : Nat → Int32) (c al : Int32) (k : Nat) : Int32 := c * sh k / al
def rm (sh : Nat → Int32) (c al : Int32) (k : Nat) : Int32 := c * sh k - c * sh k / al * al
def lf (sh : Nat → Int32) (c al : Int32) : Nat → Int32
  | 0 => c
  | n + 1 => lf sh c al n - qo sh c al n
def ah (sh : Nat → Int32) (c al rest : Int32) (o : Nat) : Nat → Int32
  | 0 => 0
  | n + 1 => ah sh c al rest o n + (if rest < rm sh c al n ∨ (rm sh c al n = rest ∧ ¬ nI o ≤ nI n) then 1 else 0)
theorem sumB_l {B : Mem} {s : Nat} (hs : s < 6) : ∀ (n p : Nat) (acc : Int32), p ≤ 4 → 4 - p < n → lX6_sumOf_4 n (nI s) acc (nI p) B = some (sa (fun k => B 21 (4 * s + k)) acc p (4 - p), B) := by
  intro n
  induction n with
  | zero => intro p acc h1 h2; omega
  | succ n ih =>
    intro p acc h1 h2
    show gX6_sumOf_4 (lX6_sumOf_4 n) (nI s) acc (nI p) B = _
    unfold gX6_sumOf_4
    by_cases e : p = 4
    · subst e
      rw [if_pos (show (4 : Int32) ≤ nI 4 by decide)]
      rfl
    · rw [if_neg (show ¬ (4 : Int32) ≤ nI p from nI_ge (b := 4) (by omega) (by decide)), ix4, if_neg (gd (by omega) (by decide)), nI_clamp (by omega), nI_1, ih (p + 1) _ (by omega) (by omega), show 4 - p = (4 - (p + 1)) + 1 by omega]
      rfl
theorem partB_l {B : Mem} {s o : Nat} (hs : s < 6) (ho : o < 4) (c al wh rest x4 : Int32) (hal : ¬ al = 0) : ∀ (n p : Nat), p ≤ 4 → 4 - p < n → lX6_partOf_58 n (nI s) (nI o) c x4 al wh rest (lf (fun k => B 21 (4 * s + k)) c al p) (ah (fun k => B 21 (4 * s + k)) c al rest o p) (nI p) B = some (if lf (fun k => B 21 (4 * s + k)) c al 4 ≤ ah (fun k => B 21 (4 * s + k)) c al rest o 4 then wh else wh + 1, B) := by
  intro n
  induction n with
  | zero => intro p h1 h2; omega
  | succ n ih =>
    intro p h1 h2
    show gX6_partOf_58 (lX6_partOf_58 n) (nI s) (nI o) c x4 al wh rest (lf (fun k => B 21 (4 * s + k)) c al p) (ah (fun k => B 21 (4 * s + k)) c al rest o p) (nI p) B = _
    unfold gX6_partOf_58 gX6_partOf_116 gX6_partOf_119
    by_cases e : p = 4
    · subst e
      rw [if_pos (show (4 : Int32) ≤ nI 4 by decide)]
      by_cases c0 : lf (fun k => B 21 (4 * s + k)) c al 4 ≤ ah (fun k => B 21 (4 * s + k)) c al rest o 4
      · rw [if_pos c0, if_pos c0]
      · rw [if_neg c0, if_neg c0]
    · have key := ih (p + 1) (by omega) (by omega)
      rw [lf, ah] at key
      unfold qo rm at key
      have g := gd2 (show 4 * s + p < 24 by omega) (by decide)
      simp only [if_neg (show ¬ (4 : Int32) ≤ nI p from nI_ge (b := 4) (by omega) (by decide)), ix4, nI_clamp (show 4 * s + p < 2 ^ 31 by omega), if_neg g, if_neg hal, nI_1 p]
      by_cases c0 : rest < c * B 21 (4 * s + p) - c * B 21 (4 * s + p) / al * al
      · rw [if_pos c0]
        rw [if_pos (Or.inl c0)] at key
        exact key
      · rw [if_neg c0]
        by_cases c1 : c * B 21 (4 * s + p) - c * B 21 (4 * s + p) / al * al = rest
        · rw [if_pos c1]
          by_cases c2 : nI o ≤ nI p
          · rw [if_pos c2]
            rw [if_neg (fun q => q.elim c0 (fun q => q.2 c2)), Int32.add_zero] at key
            exact key
          · rw [if_neg c2]
            rw [if_pos (Or.inr ⟨c1, c2⟩)] at key
            exact key
        · rw [if_neg c1]
          rw [if_neg (fun q => q.elim c0 (fun q => c1 q.1)), Int32.add_zero] at key
          exact key
theorem partM3_l {M : Mem} {s o : Nat} (hs : s < 6) (ho : o < 4) (c al left rest : Int32) (hal : ¬ al = 0) : ∀ (n p : Nat), p ≤ 4 → 4 - p < n → lX9_part_121 n (nI s) c (nI o) al left rest (ah (fun k => M 1 (4 * s + k)) c al rest o p) (nI p) M = some (qo (fun k => M 1 (4 * s + k)) c al o + (if left ≤ ah (fun k => M 1 (4 * s + k)) c al rest o 4 then 0 else 1), M) := by
  intro n
  induction n with
  | zero => intro p h1 h2; omega
  | succ n ih =>
    intro p h1 h2
    show gX9_part_121 (lX9_part_121 n) (nI s) c (nI o) al left rest (ah (fun k => M 1 (4 * s + k)) c al rest o p) (nI p) M = _
    unfold gX9_part_121 gX9_part_167 gX9_part_171 gX9_part_172 gX9_part_208
    by_cases e : p = 4
    · subst e
      have g := gd2 (show 4 * s + o < 24 by omega) (by decide)
      simp only [if_pos (show (4 : Int32) ≤ nI 4 by decide), ix4', nI_clamp (show 4 * s + o < 2 ^ 31 by omega), if_neg g, if_neg hal]
      by_cases c0 : left ≤ ah (fun k => M 1 (4 * s + k)) c al rest o 4
      · rw [if_pos c0, if_pos c0]
        rfl
      · rw [if_neg c0, if_neg c0]
        rfl
    · have key := ih (p + 1) (by omega) (by omega)
      rw [show ah (fun k => M 1 (4 * s + k)) c al rest o (p + 1) = ah (fun k => M 1 (4 * s + k)) c al rest o p + (if rest < c * M 1 (4 * s + p) - c * M 1 (4 * s + p) / al * al ∨ (c * M 1 (4 * s + p) - c * M 1 (4 * s + p) / al * al = rest ∧ ¬ nI o ≤ nI p) then 1 else 0) from rfl] at key
      have g := gd2 (show 4 * s + p < 24 by omega) (by decide)
      simp only [if_neg (show ¬ (4 : Int32) ≤ nI p from nI_ge (b := 4) (by omega) (by decide)), ix4', nI_clamp (show 4 * s + p < 2 ^ 31 by omega), if_neg g, if_neg hal, nI_1 p]
      by_cases c0 : rest < c * M 1 (4 * s + p) - c * M 1 (4 * s + p) / al * al
      · rw [if_pos c0]
        rw [if_pos (Or.inl c0)] at key
        exact key
      · rw [if_neg c0]
        by_cases c1 : c * M 1 (4 * s + p) - c * M 1 (4 * s + p) / al * al = rest
        · rw [if_pos c1]
          by_cases c2 : nI o ≤ nI p
          · rw [if_pos c2]
            rw [if_neg (fun q => q.elim c0 (fun q => q.2 c2))] at key
            exact key
          · rw [if_neg c2]
            rw [if_pos (Or.inr ⟨c1, c2⟩)] at key
            exact key
        · rw [if_neg c1]
          rw [if_neg (fun q => q.elim c0 (fun q => c1 q.1))] at key
          exact key
theorem partM2_l {M : Mem} {s o : Nat} (hs : s < 6) (ho : o < 4) (c al : Int32) (hal : ¬ al = 0) : ∀ (n p : Nat), p ≤ 4 → 4 - p < n → lX9_part_65 n (nI s) c (nI o) al (lf (fun k => M 1 (4 * s + k)) c al p) (nI p) M = some (qo (fun k => M 1 (4 * s + k)) c al o + (if lf (fun k => M 1 (4 * s + k)) c al 4 ≤ ah (fun k => M 1 (4 * s + k)) c al (rm (fun k => M 1 (4 * s + k)) c al o) o 4 then 0 else 1), M) := by
  intro n
  induction n with
  | zero => intro p h1 h2; omega
  | succ n ih =>
    intro p h1 h2
    show gX9_part_65 (lX9_part_65 n) (nI s) c (nI o) al (lf (fun k => M 1 (4 * s + k)) c al p) (nI p) M = _
    unfold gX9_part_65
    by_cases e : p = 4
    · subst e
      have g := gd2 (show 4 * s + o < 24 by omega) (by decide)
      simp only [if_pos (show (4 : Int32) ≤ nI 4 by decide), ix4', nI_clamp (show 4 * s + o < 2 ^ 31 by omega), if_neg g, if_neg hal]
      exact partM3_l hs ho c al (lf (fun k => M 1 (4 * s + k)) c al 4) (rm (fun k => M 1 (4 * s + k)) c al o) hal fu 0 (by omega) (by unfold fu; omega)
    · have key := ih (p + 1) (by omega) (by omega)
      have g := gd2 (show 4 * s + p < 24 by omega) (by decide)
      simp only [if_neg (show ¬ (4 : Int32) ≤ nI p from nI_ge (b := 4) (by omega) (by decide)), ix4', nI_clamp (show 4 * s + p < 2 ^ 31 by omega), if_neg g, if_neg hal, nI_1 p]
      exact key
theorem partM1_l {M : Mem} {s o : Nat} (hs : s < 6) (ho : o < 4) (c : Int32) (r : Res) : ∀ (n p : Nat) (acc : Int32), p ≤ 4 → 4 - p < n → lX9_part_65 fu (nI s) c (nI o) (sa (fun k => M 1 (4 * s + k)) acc p (4 - p)) c 0 M = r → lX9_part_31 n (nI s) c (nI o) acc (nI p) M = r := by
  intro n
  induction n with
  | zero => intro p acc h1 h2; omega
  | succ n ih =>
    intro p acc h1 h2 hr
    show gX9_part_31 (lX9_part_31 n) (nI s) c (nI o) acc (nI p) M = _
    unfold gX9_part_31
    by_cases e : p = 4
    · subst e
      rw [if_pos (show (4 : Int32) ≤ nI 4 by decide)]
      exact hr
    · have g := gd2 (show 4 * s + p < 24 by omega) (by decide)
      simp only [if_neg (show ¬ (4 : Int32) ≤ nI p from nI_ge (b := 4) (by omega) (by decide)), ix4', nI_clamp (show 4 * s + p < 2 ^ 31 by omega), if_neg g, nI_1 p]
      refine ih (p + 1) _ (by omega) (by omega) ?_
      rw [show 4 - p = (4 - (p + 1)) + 1 by omega] at hr
      exact hr
/-- the units that are left never pass those who have a rest -/
theorem units {c V : Nat} {v : Nat → Nat} (hV : v 0 + v 1 + v 2 + v 3 = V) (h0 : 0 < V) :
    c * v 0 / V + c * v 1 / V + c * v 2 / V + c * v 3 / V ≤ c ∧ c - (c * v 0 / V + c * v 1 / V + c * v 2 / V + c * v 3 / V) ≤ (if 0 < c * v 0 % V then 1 else 0) + (if 0 < c * v 1 % V then 1 else 0) + (if 0 < c * v 2 % V then 1 else 0) + (if 0 < c * v 3 % V then 1 else 0) := by
  have d0 := Nat.div_add_mod (c * v 0) V
  have d1 := Nat.div_add_mod (c * v 1) V
  have d2 := Nat.div_add_mod (c * v 2) V
  have d3 := Nat.div_add_mod (c * v 3) V
  have l0 := Nat.mod_lt (c * v 0) h0
  have l1 := Nat.mod_lt (c * v 1) h0
  have l2 := Nat.mod_lt (c * v 2) h0
  have l3 := Nat.mod_lt (c * v 3) h0
  have hs : c * v 0 + c * v 1 + c * v 2 + c * v 3 = V * c := by rw [← Nat.mul_add, ← Nat.mul_add, ← Nat.mul_add, hV, Nat.mul_comm]
  generalize c * v 0 / V = q0 at *
  generalize c * v 1 / V = q1 at *
  generalize c * v 2 / V = q2 at *
  generalize c * v 3 / V = q3 at *
  generalize c * v 0 % V = e0 at *
  generalize c * v 1 % V = e1 at *
  generalize c * v 2 % V = e2 at *
  generalize c * v 3 % V = e3 at *
  have hq : V * (q0 + q1 + q2 + q3) + (e0 + e1 + e2 + e3) = V * c := by
    rw [Nat.mul_add, Nat.mul_add, Nat.mul_add]
    omega
  have h1 : q0 + q1 + q2 + q3 ≤ c := by
    apply Nat.le_of_mul_le_mul_left _ h0
    omega
  refine ⟨h1, ?_⟩
  apply Nat.le_of_mul_le_mul_left _ h0
  rw [Nat.mul_sub]
  have t : ∀ e, e < V → e ≤ V * (if 0 < e then 1 else 0) := by
    intro e he
    by_cases h : 0 < e
    · rw [if_pos h]; omega
    · rw [if_neg h]; omega
  have t0 := t e0 l0
  have t1 := t e1 l1
  have t2 := t e2 l2
  have t3 := t e3 l3
  generalize (if 0 < e0 then 1 else 0) = i0 at *
  generalize (if 0 < e1 then 1 else 0) = i1 at *
  generalize (if 0 < e2 then 1 else 0) = i2 at *
  generalize (if 0 < e3 then 1 else 0) = i3 at *
  have ht : V * (i0 + i1 + i2 + i3) = V * i0 + V * i1 + V * i2 + V * i3 := by rw [Nat.mul_add, Nat.mul_add, Nat.mul_add]
  omega
theorem qo_n {sh : Nat → Int32} {v : Nat → Nat} {c V k : Nat} (hk : sh k = nI (v k)) (hv : v k ≤ 9) (hc : c ≤ 139959) (h0 : 0 < V) (hV : V ≤ 36) : qo sh (nI c) (nI V) k = nI (c * v k / V) := by
  unfold qo
  have : c * v k ≤ 139959 * 9 := Nat.mul_le_mul hc hv
  rw [hk, pk_mul, pk_div (by omega) h0 (by omega)]
theorem rm_n {sh : Nat → Int32} {v : Nat → Nat} {c V k : Nat} (hk : sh k = nI (v k)) (hv : v k ≤ 9) (hc : c ≤ 139959) (h0 : 0 < V) (hV : V ≤ 36) : rm sh (nI c) (nI V) k = nI (c * v k % V) := by
  unfold rm
  have : c * v k ≤ 139959 * 9 := Nat.mul_le_mul hc hv
  rw [hk, pk_mul, pk_rem (by omega) h0 (by omega)]
theorem ah_lo {sh : Nat → Int32} {v : Nat → Nat} {c V o : Nat} (hsh : ∀ k, k < 4 → sh k = nI (v k) ∧ v k ≤ 9) (hc : c ≤ 139959) (h0 : 0 < V) (hV : V ≤ 36) : ∀ n, n ≤ 4 → ∃ t, ah sh (nI c) (nI V) 0 o n = nI t ∧ t ≤ n ∧ (n = 4 → (if 0 < c * v 0 % V then 1 else 0) + (if 0 < c * v 1 % V then 1 else 0) + (if 0 < c * v 2 % V then 1 else 0) + (if 0 < c * v 3 % V then 1 else 0) ≤ t) := by
  have step : ∀ n, n < 4 → ∀ t, ah sh (nI c) (nI V) 0 o n = nI t → ∃ t', ah sh (nI c) (nI V) 0 o (n + 1) = nI t' ∧ t' ≤ t + 1 ∧ t + (if 0 < c * v n % V then 1 else 0) ≤ t' := by
    intro n hn t e
    have hl := Nat.mod_lt (c * v n) h0
    rw [ah, e, rm_n (hsh n hn).1 (hsh n hn).2 hc h0 hV]
    by_cases c0 : 0 < c * v n % V
    · rw [if_pos (Or.inl (show (0 : Int32) < nI (c * v n % V) from nI_lt (a := 0) c0 (by omega))), if_pos c0]
      exact ⟨t + 1, nI_1 t, by omega, by omega⟩
    · rw [if_neg c0]
      by_cases c1 : (0 : Int32) < nI (c * v n % V) ∨ (nI (c * v n % V) = 0 ∧ ¬ nI o ≤ nI n)
      · rw [if_pos c1]
        exact ⟨t + 1, nI_1 t, by omega, by omega⟩
      · rw [if_neg c1]
        exact ⟨t, Int32.add_zero _, by omega, by omega⟩
  obtain ⟨t1, e1, a1, b1⟩ := step 0 (by decide) 0 rfl
  obtain ⟨t2, e2, a2, b2⟩ := step 1 (by decide) t1 e1
  obtain ⟨t3, e3, a3, b3⟩ := step 2 (by decide) t2 e2
  obtain ⟨t4, e4, a4, b4⟩ := step 3 (by decide) t3 e3
  intro n hn
  rcases (show n = 0 ∨ n = 1 ∨ n = 2 ∨ n = 3 ∨ n = 4 by omega) with rfl | rfl | rfl | rfl | rfl
  · exact ⟨0, rfl, by omega, by omega⟩
  · exact ⟨t1, e1, by omega, by omega⟩
  · exact ⟨t2, e2, by omega, by omega⟩
  · exact ⟨t3, e3, by omega, by omega⟩
  · exact ⟨t4, e4, by omega, fun _ => by omega⟩
theorem lf_n {sh : Nat → Int32} {v : Nat → Nat} {c V : Nat} (hsh : ∀ k, k < 4 → sh k = nI (v k) ∧ v k ≤ 9) (hc : c ≤ 139959) (h0 : 0 < V) (hV : V ≤ 36) (hs : c * v 0 / V + c * v 1 / V + c * v 2 / V + c * v 3 / V ≤ c) : lf sh (nI c) (nI V) 4 = nI (c - (c * v 0 / V + c * v 1 / V + c * v 2 / V + c * v 3 / V)) := by
  rw [lf, lf, lf, lf, lf, qo_n (hsh 0 (by decide)).1 (hsh 0 (by decide)).2 hc h0 hV, qo_n (hsh 1 (by decide)).1 (hsh 1 (by decide)).2 hc h0 hV, qo_n (hsh 2 (by decide)).1 (hsh 2 (by decide)).2 hc h0 hV, qo_n (hsh 3 (by decide)).1 (hsh 3 (by decide)).2 hc h0 hV]
  generalize c * v 0 / V = q0 at *
  generalize c * v 1 / V = q1 at *
  generalize c * v 2 / V = q2 at *
  generalize c * v 3 / V = q3 at *
  rw [pk_sub (by omega), pk_sub (by omega), pk_sub (by omega), pk_sub (by omega)]
  congr 1
  omega

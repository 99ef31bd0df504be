def ind (o k : Nat) : Nat := if k = o then 1 else 0
def PB (B : Mem) (s o : Nat) (c : Int32) : Int32 := match fX6_partOf (nI s) (nI o) c B with
  | some q => q.1
  | none => 0
theorem PB_of {B : Mem} {s o : Nat} {c v : Int32} (h : fX6_partOf (nI s) (nI o) c B = some (v, B)) : fX6_partOf (nI s) (nI o) c B = some (PB B s o c, B) := by
  unfold PB
  rw [h]
theorem sumB {B : Mem} {s : Nat} (hs : s < 6) : fX6_sumOf (nI s) B = some (sa (fun k => B 21 (4 * s + k)) 0 0 4, B) := sumB_l hs fu 0 0 (by omega) (by unfold fu; omega)
theorem sa4 (f : Nat → Int32) : sa f 0 0 4 = 0 + f 0 + f 1 + f 2 + f 3 := rfl
theorem part_eq {B M : Mem} {s o c : Nat} (r7 : R7 B M) (hs : s < 6) (ho : o < 4) (hc : c ≤ 139959) : fX6_partOf (nI s) (nI o) (nI c) B = some (PB B s o (nI c), B) ∧ fX9_part (nI s) (nI c) (nI o) M = some (PB B s o (nI c), M) := by
  suffices h : ∃ v, fX6_partOf (nI s) (nI o) (nI c) B = some (v, B) ∧ fX9_part (nI s) (nI c) (nI o) M = some (v, M) by
    obtain ⟨v, h1, h2⟩ := h
    have h3 := PB_of h1
    refine ⟨h3, ?_⟩
    rw [h2]
    rw [h1] at h3
    have : v = PB B s o (nI c) := (sinj h3).1
    rw [← this]
  unfold fX6_partOf fX9_part
  have g := gd2 (show 4 * s + o < 24 by omega) (by decide)
  have g2 := gd2 (show s < 6 from hs) (by decide)
  simp only [ix4, nI_clamp (show 4 * s + o < 2 ^ 31 by omega), nI_clamp (show s < 2 ^ 31 by omega), if_neg g, if_neg g2, sumB hs, obi_s]
  rcases r7 s hs with ⟨h3, o', ho', h4, hb⟩ | ⟨h3, v, hv, hV⟩
  · rw [h3, if_pos rfl, h4]
    have hal : sa (fun k => B 21 (4 * s + k)) 0 0 4 = 1 := by
      rw [sa4]
      simp only [hb 0 (by decide), hb 1 (by decide), hb 2 (by decide), hb 3 (by decide)]
      rcases (show o' = 0 ∨ o' = 1 ∨ o' = 2 ∨ o' = 3 by omega) with rfl | rfl | rfl | rfl <;> decide
    rw [hal]
    by_cases e : o = o'
    · subst e
      rw [hb o ho, if_pos rfl, if_neg (show ¬ (1 : Int32) ≤ 0 by decide), if_pos (show (0 : Int32) < 1 by decide), if_neg (show ¬ (1 : Int32) = 0 by decide), if_pos rfl]
      have hp := partB_l (B := B) hs ho (nI c) 1 (nI c * 1 / 1) (nI c * 1 - nI c * 1 / 1 * 1) 1 (by decide) fu 0 (by omega) (by unfold fu; omega)
      refine ⟨nI c, ?_, rfl⟩
      have hsh : ∀ k, k < 4 → (fun k => B 21 (4 * s + k)) k = nI (ind o k) ∧ ind o k ≤ 9 := by
        intro k hk
        show B 21 (4 * s + k) = nI (ind o k) ∧ ind o k ≤ 9
        unfold ind
        rw [hb k hk]
        by_cases e : k = o
        · rw [if_pos e, if_pos e]; exact ⟨rfl, by omega⟩
        · rw [if_neg e, if_neg e]; exact ⟨rfl, by omega⟩
      have e1 : nI c * 1 = nI c := Int32.mul_one _
      have e2 : nI c / 1 = nI c := by rw [show (1 : Int32) = nI 1 from rfl, pk_div (by omega) (by decide) (by decide), Nat.div_one]
      have e3 : nI c - nI c = 0 := Int32.sub_self _
      rw [e1, e2, e1, e3] at hp ⊢
      have hz : ind o 0 + ind o 1 + ind o 2 + ind o 3 = 1 := by
        rcases (show o = 0 ∨ o = 1 ∨ o = 2 ∨ o = 3 by omega) with rfl | rfl | rfl | rfl <;> rfl
      have hu := units (c := c) (v := ind o) (V := 1) hz (by decide)
      have hlf := lf_n (V := 1) hsh hc (by decide) (by decide) hu.1
      obtain ⟨t, ht, htl, hle⟩ := ah_lo (V := 1) (o := o) hsh hc (by decide) (by decide) 4 (by omega)
      have h1 := hle rfl
      have h2 := Nat.le_trans hu.2 h1
      rw [show (1 : Int32) = nI 1 from rfl] at hp ⊢
      rw [hlf, ht, if_pos (nI_le h2 (by omega))] at hp
      exact hp
    · rw [hb o ho, if_neg e, if_pos (show (0 : Int32) ≤ 0 by decide), if_neg (fun q => e ((nI_eq (by omega) (by omega)).mp q).symm)]
      exact ⟨0, rfl, rfl⟩
  · rw [h3, if_neg (show ¬ (1 : Int32) = 0 by decide)]
    have hv0 := hv 0 (by decide)
    have hv1 := hv 1 (by decide)
    have hv2 := hv 2 (by decide)
    have hv3 := hv 3 (by decide)
    have hVd : v 0 + v 1 + v 2 + v 3 ≤ 36 := by omega
    have halB : sa (fun k => B 21 (4 * s + k)) 0 0 4 = nI (v 0 + v 1 + v 2 + v 3) := by
      rw [sa4]
      simp only [hv0.2.1, hv1.2.1, hv2.2.1, hv3.2.1, Int32.zero_add, nI_add]
    have halM : sa (fun k => M 1 (4 * s + k)) 0 0 4 = nI (v 0 + v 1 + v 2 + v 3) := by
      rw [sa4]
      simp only [hv0.2.2, hv1.2.2, hv2.2.2, hv3.2.2, Int32.zero_add, nI_add]
    generalize hVe : v 0 + v 1 + v 2 + v 3 = V at *
    have hal0 : ¬ nI V = 0 := nI_ne0 hV (by omega)
    have hsB : ∀ k, k < 4 → B 21 (4 * s + k) = M 1 (4 * s + k) := fun k hk => by
      rw [(hv k hk).2.1, (hv k hk).2.2]
    have hM : lX9_part_31 fu (nI s) (nI c) (nI o) 0 0 M = some (qo (fun k => M 1 (4 * s + k)) (nI c) (nI V) o + (if lf (fun k => M 1 (4 * s + k)) (nI c) (nI V) 4 ≤ ah (fun k => M 1 (4 * s + k)) (nI c) (nI V) (rm (fun k => M 1 (4 * s + k)) (nI c) (nI V) o) o 4 then 0 else 1), M) := by
      refine partM1_l hs ho (nI c) _ fu 0 0 (by omega) (by unfold fu; omega) ?_
      show lX9_part_65 fu (nI s) (nI c) (nI o) (sa (fun k => M 1 (4 * s + k)) 0 0 4) (nI c) 0 M = _
      rw [halM]
      exact partM2_l hs ho (nI c) (nI V) hal0 fu 0 (by omega) (by unfold fu; omega)
    rw [hM, halB, (hv o ho).2.1]
    have hlfe : ∀ n, n ≤ 4 → lf (fun k => B 21 (4 * s + k)) (nI c) (nI V) n = lf (fun k => M 1 (4 * s + k)) (nI c) (nI V) n := by
      intro n
      induction n with
      | zero => intro _; rfl
      | succ n ih => intro hn; rw [lf, lf, ih (by omega), qo, qo, hsB n (by omega)]
    have hahe : ∀ (x : Int32) (n : Nat), n ≤ 4 → ah (fun k => B 21 (4 * s + k)) (nI c) (nI V) x o n = ah (fun k => M 1 (4 * s + k)) (nI c) (nI V) x o n := by
      intro x n
      induction n with
      | zero => intro _; rfl
      | succ n ih => intro hn; rw [ah, ah, ih (by omega), rm, rm, hsB n (by omega)]
    by_cases e : v o = 0
    · rw [e, if_pos (show nI 0 ≤ 0 by decide)]
      refine ⟨0, rfl, ?_⟩
      have hu := units (c := c) hVe hV
      have hsM : ∀ k, k < 4 → (fun k => M 1 (4 * s + k)) k = nI (v k) ∧ v k ≤ 9 := fun k hk => ⟨(hv k hk).2.2, (hv k hk).1⟩
      rw [lf_n hsM hc hV hVd hu.1, qo_n (hsM o ho).1 (hsM o ho).2 hc hV hVd, rm_n (hsM o ho).1 (hsM o ho).2 hc hV hVd, e, Nat.mul_zero, Nat.zero_div, Nat.zero_mod]
      obtain ⟨t, ht, htl, hle⟩ := ah_lo (o := o) hsM hc hV hVd 4 (by omega)
      rw [show nI 0 = (0 : Int32) from rfl, ht, if_pos (nI_le (Nat.le_trans hu.2 (hle rfl)) (by omega))]
      rfl
    · rw [if_neg (show ¬ nI (v o) ≤ 0 from nI_nle (by omega) (by have := (hv o ho).1; omega)), if_pos (show (0 : Int32) < nI V from nI_lt (a := 0) hV (by omega)), if_neg hal0]
      refine ⟨_, ?_, rfl⟩
      have hp := partB_l (B := B) hs ho (nI c) (nI V) (nI c * nI (v o) / nI V) (nI c * nI (v o) - nI c * nI (v o) / nI V * nI V) (nI (v o)) hal0 fu 0 (by omega) (by unfold fu; omega)
      have hq : qo (fun k => M 1 (4 * s + k)) (nI c) (nI V) o = nI c * nI (v o) / nI V := by unfold qo; dsimp only; rw [(hv o ho).2.2]
      have hr : rm (fun k => M 1 (4 * s + k)) (nI c) (nI V) o = nI c * nI (v o) - nI c * nI (v o) / nI V * nI V := by unfold rm; dsimp only; rw [(hv o ho).2.2]
      refine hp.trans ?_
      rw [hlfe 4 (by omega), hahe _ 4 (by omega), hq, hr]
      by_cases c0 : lf (fun k => M 1 (4 * s + k)) (nI c) (nI V) 4 ≤ ah (fun k => M 1 (4 * s + k)) (nI c) (nI V) (nI c * nI (v o) - nI c * nI (v o) / nI V * nI V) o 4
      · rw [if_pos c0, if_pos c0, Int32.add_zero]
      · rw [if_neg c0, if_neg c0]

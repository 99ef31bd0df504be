/-! numbers and memories, plain -/
theorem upM_eq (M : Mem) (k j : Nat) (x : Int32) : upM M k j x k = upd (M k) j x := by simp [upM]
theorem upM_ne {k k' : Nat} (M : Mem) (j : Nat) (x : Int32) (h : k' ≠ k) : upM M k j x k' = M k' := by simp [upM, h]
theorem upd_eq (f : Nat → Int32) (k : Nat) (x : Int32) : upd f k x k = x := by simp [upd]
theorem upd_ne {k j : Nat} (f : Nat → Int32) (x : Int32) (h : j ≠ k) : upd f k x j = f j := by simp [upd, h]
theorem obi_s (r : Int32) (M : Mem) (k : Int32 → Mem → Res) : obi (some (r, M)) k = k r M := rfl
theorem gd {n N : Nat} (h : n < N) (hN : N < 2 ^ 31) : ¬ (nI n < 0 ∨ N ≤ Int32.toNatClampNeg (nI n)) := nI_in h hN
theorem ix2 (a b : Nat) : nI a * 2000 + nI b = nI (2000 * a + b) := by
  rw [show (2000 : Int32) = nI 2000 from rfl, pk_mul, nI_add, Nat.mul_comm]
theorem ix2' (a b : Nat) : 2000 * nI a + nI b = nI (2000 * a + b) := by
  rw [show (2000 : Int32) = nI 2000 from rfl, pk_mul, nI_add]
theorem ix4 (a b : Nat) : nI a * 4 + nI b = nI (4 * a + b) := by
  rw [show (4 : Int32) = nI 4 from rfl, pk_mul, nI_add, Nat.mul_comm]
theorem ix4' (a b : Nat) : 4 * nI a + nI b = nI (4 * a + b) := by
  rw [show (4 : Int32) = nI 4 from rfl, pk_mul, nI_add]
theorem nI_m1 {n : Nat} (h : n < 2 ^ 31) : ¬ nI n = -1 := by
  intro e
  have := congrArg Int32.toInt e
  rw [nI_toInt h] at this
  have h2 : (-1 : Int32).toInt = -1 := rfl
  omega
theorem lt_i (a b : Int32) : a < b ↔ a.toInt < b.toInt := Int32.lt_iff_toInt_lt
theorem le_i (a b : Int32) : a ≤ b ↔ a.toInt ≤ b.toInt := Int32.le_iff_toInt_le
theorem nn (x : Int32) (N : Nat) (hN : N < 2 ^ 31) : (∃ n, n < N ∧ x = nI n) ∨ x < 0 ∨ (¬ x < 0 ∧ nI N ≤ x) := by
  by_cases h0 : x < 0
  · exact Or.inr (Or.inl h0)
  · obtain ⟨j, hj, e⟩ := nI_of h0
    by_cases h1 : j < N
    · exact Or.inl ⟨j, h1, e⟩
    · refine Or.inr (Or.inr ⟨h0, ?_⟩)
      rw [e]
      exact nI_le (by omega) hj
/-- a number that may be a service: both know it, or neither does -/
theorem svc (x : Int32) : (∃ s, s < 6 ∧ x = nI s ∧ (∀ B, fX8_isService x B = some (1, B)) ∧ ∀ M, fX9_isService x M = some (1, M)) ∨ ((∀ B, fX8_isService x B = some (0, B)) ∧ ∀ M, fX9_isService x M = some (0, M)) := by
  rcases nn x 6 (by decide) with ⟨n, h, rfl⟩ | h | ⟨h0, h⟩
  · refine Or.inl ⟨n, h, rfl, fun B => ?_, fun M => ?_⟩
    · rw [fX8_isService, if_neg (nI_pos (by omega)), if_neg (by rw [show (6 : Int32) = nI 6 from rfl]; exact nI_ge h (by decide))]
    · rw [fX9_isService, fX9_isIn, if_neg (nI_pos (by omega)), if_neg (by rw [show (5 : Int32) = nI 5 from rfl]; exact nI_nlt (by omega) (by decide)), obi_s]
      rfl
  · refine Or.inr ⟨fun B => ?_, fun M => ?_⟩
    · rw [fX8_isService, if_pos h]
    · rw [fX9_isService, fX9_isIn, if_pos h, obi_s]
      rfl
  · refine Or.inr ⟨fun B => ?_, fun M => ?_⟩
    · rw [fX8_isService, if_neg h0, if_pos (show (6 : Int32) ≤ x from h)]
    · rw [fX9_isService, fX9_isIn, if_neg h0, if_pos, obi_s]
      · rfl
      · rw [lt_i]
        rw [le_i, nI_toInt (by decide)] at h
        have : (5 : Int32).toInt = 5 := rfl
        omega
theorem own (x : Int32) : (∃ s, s < 4 ∧ x = nI s ∧ (∀ B, fX8_isOwner x B = some (1, B)) ∧ ∀ M, fX9_isOwner x M = some (1, M)) ∨ ((∀ B, fX8_isOwner x B = some (0, B)) ∧ ∀ M, fX9_isOwner x M = some (0, M)) := by
  rcases nn x 4 (by decide) with ⟨n, h, rfl⟩ | h | ⟨h0, h⟩
  · refine Or.inl ⟨n, h, rfl, fun B => ?_, fun M => ?_⟩
    · rw [fX8_isOwner, if_neg (nI_pos (by omega)), if_neg (by rw [show (4 : Int32) = nI 4 from rfl]; exact nI_ge h (by decide))]
    · rw [fX9_isOwner, fX9_isIn, if_neg (nI_pos (by omega)), if_neg (by rw [show (3 : Int32) = nI 3 from rfl]; exact nI_nlt (by omega) (by decide)), obi_s]
      rfl
  · refine Or.inr ⟨fun B => ?_, fun M => ?_⟩
    · rw [fX8_isOwner, if_pos h]
    · rw [fX9_isOwner, fX9_isIn, if_pos h, obi_s]
      rfl
  · refine Or.inr ⟨fun B => ?_, fun M => ?_⟩
    · rw [fX8_isOwner, if_neg h0, if_pos (show (4 : Int32) ≤ x from h)]
    · rw [fX9_isOwner, fX9_isIn, if_neg h0, if_pos, obi_s]
      · rfl
      · rw [lt_i]
        rw [le_i, nI_toInt (by decide)] at h
        have : (3 : Int32).toInt = 3 := rfl
        omega
theorem isIn_v (x a b : Int32) (M : Mem) : fX9_isIn x a b M = some (if x < a ∨ b < x then 0 else 1, M) := by
  unfold fX9_isIn
  by_cases h : x < a
  · simp [h]
  · by_cases h2 : b < x
    · simp [h, h2]
    · simp [h, h2]
/-! the state, said of both memories at once -/
def costs (M : Mem) (s h : Nat) : Nat → Int32
  | 0 => M 2 (2000 * s + h)
  | n + 1 => costs M s h n + (if M 5 n = nI s ∧ ¬ nI h < M 7 n ∧ (M 8 n = -1 ∨ ¬ M 8 n ≤ nI h) then M 6 n else 0)
def rcnt (M : Mem) : Nat → Nat
  | 0 => 0
  | n + 1 => rcnt M n + (if M 8 n = -1 then 1 else 0)
def rsum (M : Mem) (s : Nat) : Nat → Int32
  | 0 => 0
  | n + 1 => rsum M s n + (if M 5 n = nI s ∧ M 8 n = -1 then M 6 n else 0)
def R1 (B M : Mem) (T mc kc : Nat) : Prop := B 1 3 = nI T ∧ M 0 0 = nI T ∧ T < 2000 ∧ B 5 4 = nI mc ∧ M 0 1 = nI mc ∧ mc ≤ 40 ∧ B 14 5 = nI kc ∧ M 0 2 = nI kc ∧ kc ≤ 100 ∧ B 0 8 = M 0 3
def R2 (B M : Mem) (T mc : Nat) : Prop := ∀ i, i < mc → B 6 i = M 5 i ∧ B 7 i = M 6 i ∧ B 8 i = M 7 i ∧ B 9 i = M 8 i ∧ (∃ s, s < 6 ∧ M 5 i = nI s) ∧ (∃ p, p ≤ 999 ∧ M 6 i = nI p) ∧ (∃ b, b ≤ T ∧ M 7 i = nI b) ∧ (M 8 i = -1 ∨ ∃ q, q ≤ T ∧ M 8 i = nI q)
def R3 (B M : Mem) (mc : Nat) : Prop := B 5 5 = nI (rcnt M mc) ∧ ∀ s, s < 6 → B 3 s = rsum M s mc
def R4 (B M : Mem) (T : Nat) : Prop := ∀ s, s < 6 → B 4 s = M 2 (2000 * s + T) ∧ ∀ h, h < 2000 → (∃ u, u ≤ 99999 ∧ M 2 (2000 * s + h) = nI u) ∧ (T < h → M 2 (2000 * s + h) = 0)
def R5 (B M : Mem) (T mc : Nat) : Prop := ∀ s h, s < 6 → h < T → B 2 (2000 * s + h) = costs M s h mc
def R6 (B M : Mem) (T kc : Nat) : Prop := (∀ i, i < kc → B 15 i = M 11 i ∧ B 16 i = M 12 i ∧ B 17 i = M 13 i ∧ B 18 i = M 14 i ∧ B 19 i = M 15 i ∧ (∃ s, s < 6 ∧ M 11 i = nI s) ∧ (∃ q, q ≤ T ∧ M 14 i = nI q) ∧ (M 15 i = 0 ∨ M 15 i = 1)) ∧ ∀ i j, i < j → j < kc → M 15 i = 1 → M 15 j = 1 → M 11 i = M 11 j → M 12 i ≠ M 12 j
def R7 (B M : Mem) : Prop := ∀ s, s < 6 → (M 3 s = 0 ∧ ∃ o, o < 4 ∧ M 4 s = nI o ∧ ∀ p, p < 4 → B 21 (4 * s + p) = if p = o then 1 else 0) ∨ (M 3 s = 1 ∧ ∃ v : Nat → Nat, (∀ p, p < 4 → v p ≤ 9 ∧ B 21 (4 * s + p) = nI (v p) ∧ M 1 (4 * s + p) = nI (v p)) ∧ 0 < v 0 + v 1 + v 2 + v 3)
def R8 (B M : Mem) : Prop := ∀ o, o < 4 → B 24 o = M 16 o ∧ B 25 o = M 17 o ∧ B 26 o = M 18 o ∧ ∃ f t, M 17 o = nI f ∧ M 18 o = nI t ∧ f ≤ t ∧ t ≤ 2000
def RR (B M : Mem) (T mc kc : Nat) : Prop := R1 B M T mc kc ∧ R2 B M T mc ∧ R3 B M mc ∧ R4 B M T ∧ R5 B M T mc ∧ R6 B M T kc ∧ R7 B M ∧ R8 B M
def Rel (B M : Mem) : Prop := ∃ T mc kc, RR B M T mc kc
theorem costs_congr {M M' : Mem} {s h : Nat} : ∀ (n : Nat), (M' 2 (2000 * s + h) = M 2 (2000 * s + h)) → (∀ i, i < n → M' 5 i = M 5 i ∧ M' 6 i = M 6 i ∧ M' 7 i = M 7 i ∧ (M' 8 i = M 8 i ∨ ((M 8 i = -1 ∨ ¬ M 8 i ≤ nI h) ∧ (M' 8 i = -1 ∨ ¬ M' 8 i ≤ nI h)))) → costs M' s h n = costs M s h n
  | 0, h0, _ => h0
  | n + 1, h0, h1 => by
    obtain ⟨a, b, c, d⟩ := h1 n (Nat.lt_succ_self n)
    rw [costs, costs, costs_congr n h0 (fun i hi => h1 i (by omega)), a, b, c]
    rcases d with d | ⟨d, d'⟩
    · rw [d]
    · simp only [d, d', and_true]
theorem rcnt_congr {M M' : Mem} : ∀ (n : Nat), (∀ i, i < n → M' 8 i = M 8 i) → rcnt M' n = rcnt M n
  | 0, _ => rfl
  | n + 1, h1 => by rw [rcnt, rcnt, rcnt_congr n (fun i hi => h1 i (by omega)), h1 n (Nat.lt_succ_self n)]
theorem rsum_congr {M M' : Mem} {s : Nat} : ∀ (n : Nat), (∀ i, i < n → M' 5 i = M 5 i ∧ M' 6 i = M 6 i ∧ M' 8 i = M 8 i) → rsum M' s n = rsum M s n
  | 0, _ => rfl
  | n + 1, h1 => by
    obtain ⟨a, b, c⟩ := h1 n (Nat.lt_succ_self n)
    rw [rsum, rsum, rsum_congr n (fun i hi => h1 i (by omega)), a, b, c]
/-- what is written in rows that a call fills anew changes nothing -/
theorem Rel.scr {B B' M M' : Mem} {T mc kc : Nat} (h : RR B M T mc kc) (hB : ∀ k, k ≠ 10 → k ≠ 11 → k ≠ 13 → B' k = B k) (hM : ∀ k, k ≠ 0 → k ≠ 9 → k ≠ 10 → M' k = M k) (h0 : ∀ j, j < 14 → M' 0 j = M 0 j) : RR B' M' T mc kc := by
  obtain ⟨r1, r2, r3, r4, r5, r6, r7, r8⟩ := h
  have b0 := hB 0 (by decide) (by decide) (by decide)
  have b1 := hB 1 (by decide) (by decide) (by decide)
  have b2 := hB 2 (by decide) (by decide) (by decide)
  have b3 := hB 3 (by decide) (by decide) (by decide)
  have b4 := hB 4 (by decide) (by decide) (by decide)
  have b5 := hB 5 (by decide) (by decide) (by decide)
  have b6 := hB 6 (by decide) (by decide) (by decide)
  have b7 := hB 7 (by decide) (by decide) (by decide)
  have b8 := hB 8 (by decide) (by decide) (by decide)
  have b9 := hB 9 (by decide) (by decide) (by decide)
  have b14 := hB 14 (by decide) (by decide) (by decide)
  have b15 := hB 15 (by decide) (by decide) (by decide)
  have b16 := hB 16 (by decide) (by decide) (by decide)
  have b17 := hB 17 (by decide) (by decide) (by decide)
  have b18 := hB 18 (by decide) (by decide) (by decide)
  have b19 := hB 19 (by decide) (by decide) (by decide)
  have b21 := hB 21 (by decide) (by decide) (by decide)
  have b24 := hB 24 (by decide) (by decide) (by decide)
  have b25 := hB 25 (by decide) (by decide) (by decide)
  have b26 := hB 26 (by decide) (by decide) (by decide)
  have m1 := hM 1 (by decide) (by decide) (by decide)
  have m2 := hM 2 (by decide) (by decide) (by decide)
  have m3 := hM 3 (by decide) (by decide) (by decide)
  have m4 := hM 4 (by decide) (by decide) (by decide)
  have m5 := hM 5 (by decide) (by decide) (by decide)
  have m6 := hM 6 (by decide) (by decide) (by decide)
  have m7 := hM 7 (by decide) (by decide) (by decide)
  have m8 := hM 8 (by decide) (by decide) (by decide)
  have m11 := hM 11 (by decide) (by decide) (by decide)
  have m12 := hM 12 (by decide) (by decide) (by decide)
  have m13 := hM 13 (by decide) (by decide) (by decide)
  have m14 := hM 14 (by decide) (by decide) (by decide)
  have m15 := hM 15 (by decide) (by decide) (by decide)
  have m16 := hM 16 (by decide) (by decide) (by decide)
  have m17 := hM 17 (by decide) (by decide) (by decide)
  have m18 := hM 18 (by decide) (by decide) (by decide)
  refine ⟨?_, ?_, ?_, ?_, ?_, ?_, ?_, ?_⟩
  · unfold R1
    rw [b1, b5, b14, b0, h0 0 (by decide), h0 1 (by decide), h0 2 (by decide), h0 3 (by decide)]
    exact r1
  · unfold R2
    rw [b6, b7, b8, b9, m5, m6, m7, m8]
    exact r2
  · unfold R3
    rw [b5, b3, rcnt_congr mc (fun i _ => by rw [m8])]
    exact ⟨r3.1, fun s hs => by rw [rsum_congr mc (fun i _ => by rw [m5, m6, m8]; exact ⟨rfl, rfl, rfl⟩)]; exact r3.2 s hs⟩
  · unfold R4
    rw [b4, m2]
    exact r4
  · intro s h hs hh
    rw [b2, costs_congr mc (by rw [m2]) (fun i _ => by rw [m5, m6, m7, m8]; exact ⟨rfl, rfl, rfl, Or.inl rfl⟩)]
    exact r5 s h hs hh
  · unfold R6
    rw [b15, b16, b17, b18, b19, m11, m12, m13, m14, m15]
    exact r6
  · unfold R7
    rw [b21, m1, m3, m4]
    exact r7
  · unfold R8
    rw [b24, b25, b26, m16, m17, m18]
    exact r8

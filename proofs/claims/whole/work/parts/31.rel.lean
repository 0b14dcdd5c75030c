/-! the class and the reference hold the same: the relation between their cells -/
def RA (S : St) : Prop := S 1 0 = S 25 1 ∧ S 2 0 = S 25 10 ∧ S 3 0 = S 25 16 ∧ S 0 5 = S 25 14 ∧ S 0 6 = S 25 15
def RB (S : St) : Prop := S 6 = S 26 ∧ S 7 = S 27 ∧ S 8 = S 28 ∧ S 9 = S 29 ∧ S 10 = S 30 ∧ S 11 = S 31 ∧ S 12 = S 32 ∧ S 13 = S 33 ∧ S 14 = S 34 ∧ S 15 = S 35 ∧ S 16 = S 36
def RC (S : St) : Prop := S 17 = S 39 ∧ S 18 = S 37 ∧ (∀ k, k ≠ 0 → S 19 k = S 38 k) ∧ S 20 = S 40
def RL (S : St) : Prop := (∀ j : Nat, (j : Int) < S 1 0 → 1 ≤ S 8 j) ∧ (∀ j : Nat, (j : Int) < S 2 0 → 1 ≤ S 15 j) ∧ (∀ q : Nat, S 10 (5 * q) ≤ 2) ∧ (∀ q : Nat, S 10 (5 * q + 4) ≤ 1) ∧ (∀ k : Nat, 0 < S 20 k → S 18 k < S 2 0) ∧ (∀ k : Nat, S 23 (8 * k) = 0)
/-- a row of stays: as the reference has it, its offsets, its marks -/
def Rw (S : St) (k : Nat) : Prop := S 23 (8 * k) = 0 ∧ (∀ i : Nat, (i : Int) < S 20 k → S 21 (7 * k + i) = S 41 (8 * k + i) ∧ S 22 (7 * k + i) = S 42 (8 * k + i) ∧ S 21 (7 * k + i) < S 1 0 ∧ S 23 (8 * k + i + 1) = S 23 (8 * k + i) + tTm S (S 18 k) (S 21 (7 * k + i)) ∧ S 24 (12 * k + (S 21 (7 * k + i)).toNat) = (i : Int) + 1) ∧ (∀ q : Nat, q < 12 → S 24 (12 * k + q) = 0 ∨ ∃ i : Nat, (i : Int) < S 20 k ∧ S 24 (12 * k + q) = (i : Int) + 1 ∧ S 21 (7 * k + i) = (q : Int))
def Rel (S : St) : Prop := Inv S ∧ RA S ∧ RB S ∧ RC S ∧ RL S ∧ ∀ k : Nat, 1 ≤ k → (k : Int) ≤ S 3 0 → Rw S k ∧ S 18 k < S 2 0
/-- of one row: its beginning too -/
def Rx (S : St) (k : Nat) : Prop := Inv S ∧ RA S ∧ RB S ∧ S 18 = S 37 ∧ S 20 = S 40 ∧ S 17 = S 39 ∧ RL S ∧ Rw S k ∧ S 19 k = S 38 k ∧ 1 ≤ S 15 (S 18 k).toNat
theorem ceil_eq {a b : Int} (ha : 0 ≤ a) (hb : 1 ≤ b) : (a + b - 1) / b = a / b + (if 0 < a % b then 1 else 0) := by
  have h1 := Int.emod_add_mul_ediv a b
  have h2 := Int.emod_nonneg a (show b ≠ 0 by omega)
  have h3 := Int.emod_lt_of_pos a (show 0 < b by omega)
  have e : a + b - 1 = (a % b + b - 1) + b * (a / b) := by omega
  rw [e, Int.add_mul_ediv_left _ _ (show b ≠ 0 by omega), Int.add_comm]
  congr 1
  split
  · have e2 : a % b + b - 1 = (a % b - 1) + b * 1 := by omega
    rw [e2, Int.add_mul_ediv_left _ _ (show b ≠ 0 by omega), Int.ediv_eq_zero_of_lt (by omega) (by omega)]
    rfl
  · exact Int.ediv_eq_zero_of_lt (by omega) (by omega)
theorem tk_eq {S : St} (hI : Inv S) (h8 : S 8 = S 28) (h15 : S 15 = S 35) {sh : Int} (hs : 1 ≤ S 15 sh.toNat) (q : Int) : mTk S sh q = tTm S sh q := by
  have h1 := iv_8 hI q.toNat
  unfold mTk tTm
  rw [if_neg (show ¬ S 15 sh.toNat < 1 by omega), ceil_eq h1.1 hs, h8, h15]
theorem ix8 (k i : Nat) : (8 * (k : Int) + (i : Int)).toNat = 8 * k + i := by omega
theorem ix7 (k i : Nat) : ((k : Int) * 7 + (i : Int)).toNat = 7 * k + i := by omega
theorem ix8b (k i : Nat) : ((k : Int) * 8 + (i : Int)).toNat = 8 * k + i := by omega
theorem ix8c (k i : Nat) : ((k : Int) * 8 + (i : Int) + 1).toNat = 8 * k + i + 1 := by omega
theorem ix12 (k : Nat) {q : Int} (h : 0 ≤ q) : ((k : Int) * 12 + q).toNat = 12 * k + q.toNat := by omega
theorem pOf_c (S : St) (k i : Nat) : pOf S (k : Int) (i : Int) = S 21 (7 * k + i) := by unfold pOf; rw [ix7]
theorem fOf_c (S : St) (k i : Nat) : fOf S (k : Int) (i : Int) = S 22 (7 * k + i) := by unfold fOf; rw [ix7]
theorem enA_c (S : St) (k i : Nat) : enA S (k : Int) (i : Int) = S 19 k + S 23 (8 * k + i) := by unfold enA; rw [ix8b, Int.toNat_natCast]
theorem lvA_c (S : St) (k i : Nat) : lvA S (k : Int) (i : Int) = S 19 k + S 23 (8 * k + i + 1) := by unfold lvA; rw [ix8c, Int.toNat_natCast]
theorem rx_st {S : St} {k : Nat} (h : Rx S k) : S 20 k = S 40 k := by rw [h.2.2.2.2.1]
theorem rx_sp {S : St} {k : Nat} (h : Rx S k) : 1 ≤ S 35 (S 37 k).toNat := by rw [← h.2.2.1.2.2.2.2.2.2.2.2.2.1, ← h.2.2.2.1]; exact h.2.2.2.2.2.2.2.2.2
theorem rx_row {S : St} {k i : Nat} (h : Rx S k) (hi : (i : Int) < S 20 k) : S 21 (7 * k + i) = S 41 (8 * k + i) ∧ S 22 (7 * k + i) = S 42 (8 * k + i) ∧ S 21 (7 * k + i) < S 1 0 ∧ S 23 (8 * k + i + 1) = S 23 (8 * k + i) + tTm S (S 18 k) (S 21 (7 * k + i)) ∧ S 24 (12 * k + (S 21 (7 * k + i)).toNat) = (i : Int) + 1 := h.2.2.2.2.2.2.2.1.2.1 i hi
theorem rx_tk {S : St} {k : Nat} (h : Rx S k) (q : Int) : mTk S (S 37 k) q = tTm S (S 18 k) q := by
  rw [← h.2.2.2.1]
  exact tk_eq h.1 h.2.2.1.2.2.1 h.2.2.1.2.2.2.2.2.2.2.2.2.1 h.2.2.2.2.2.2.2.2.2 q
theorem en_eq {S : St} {k : Nat} (h : Rx S k) (i : Nat) (hi : (i : Int) ≤ S 20 k) : mEn S (k : Int) i = enA S (k : Int) (i : Int) := by
  induction i with
  | zero =>
    rw [enA_c]
    show S 38 (k : Int).toNat = S 19 k + S 23 (8 * k)
    rw [Int.toNat_natCast, h.2.2.2.2.2.2.2.1.1, ← h.2.2.2.2.2.2.2.2.1]
    omega
  | succ i ih =>
    obtain ⟨r1, r2, r3, r4, r5⟩ := rx_row h (i := i) (by omega)
    have h1 := ih (by omega)
    rw [mEn_s, h1, ix8, ← r1, Int.toNat_natCast, rx_tk h, enA_c, enA_c]
    rw [show 8 * k + (i + 1) = 8 * k + i + 1 by omega, r4]
    omega
theorem lv_eq {S : St} {k : Nat} (h : Rx S k) (i : Nat) (hi : (i : Int) < S 20 k) : mLv S (k : Int) (i : Int) = lvA S (k : Int) (i : Int) := by
  have h1 := en_eq h (i + 1) (by omega)
  rw [mEn_s] at h1
  unfold mLv
  rw [Int.toNat_natCast, h1, lvA_c, enA_c]
  rfl
theorem lv_tk {S : St} {k : Nat} (h : Rx S k) (i : Nat) (hi : (i : Int) < S 20 k) : lvA S (k : Int) (i : Int) = enA S (k : Int) (i : Int) + tTm S (S 18 k) (S 21 (7 * k + i)) ∧ 1 ≤ tTm S (S 18 k) (S 21 (7 * k + i)) ∧ tTm S (S 18 k) (S 21 (7 * k + i)) ≤ 100 := by
  obtain ⟨r1, r2, r3, r4, r5⟩ := rx_row h hi
  have h21 := iv_21 h.1 (7 * k + i)
  have hs := h.2.2.2.2.2.2.2.2.2
  have h8 := h.2.2.2.2.2.2.1.1 (S 21 (7 * k + i)).toNat (by omega)
  have hc := tTm_c h.1 (sh := S 18 k) hs (S 21 (7 * k + i))
  refine ⟨by rw [lvA_c, enA_c, r4]; omega, ?_, hc.2⟩
  have h1 := mTk_1 (S := S) (sh := S 18 k) (q := S 21 (7 * k + i)) (by rw [← h.2.2.1.2.2.1]; exact h8) (by rw [← h.2.2.1.2.2.2.2.2.2.2.2.2.1]; exact hs)
  rwa [tk_eq h.1 h.2.2.1.2.2.1 h.2.2.1.2.2.2.2.2.2.2.2.2.1 hs] at h1
/-- the minutes of a stay are at night, or none is -/
theorem nt_eq {a : Int} (ha : 0 ≤ a) (n : Nat) (h1 : 1 ≤ n) (h2 : n ≤ 100) : mNt a n = (decide (a % 1440 < 300) || decide (1200 ≤ a % 1440 + n - 1)) := by
  have key : ∀ m : Nat, mNt a m = true ↔ ∃ j : Nat, j < m ∧ ((a + (j : Int)) % 1440 < 300 ∨ 1200 ≤ (a + (j : Int)) % 1440) := by
    intro m
    induction m with
    | zero => simp [mNt]
    | succ m ih =>
      rw [mNt_s, Bool.or_eq_true, ih]
      simp only [Bool.or_eq_true, decide_eq_true_eq]
      constructor
      · rintro (⟨j, hj, hc⟩ | hc)
        · exact ⟨j, by omega, hc⟩
        · exact ⟨m, by omega, hc⟩
      · rintro ⟨j, hj, hc⟩
        by_cases e : j = m
        · subst e; exact Or.inr hc
        · exact Or.inl ⟨j, by omega, hc⟩
  have hiff : mNt a n = true ↔ (a % 1440 < 300 ∨ 1200 ≤ a % 1440 + n - 1) := by
    rw [key]
    constructor
    · rintro ⟨j, hj, hc⟩
      omega
    · rintro hc
      by_cases e : a % 1440 < 300 ∨ 1200 ≤ a % 1440
      · exact ⟨0, by omega, by simpa using e⟩
      · refine ⟨(1200 - a % 1440).toNat, by omega, ?_⟩
        omega
  cases hm : mNt a n with
  | true =>
    have := hiff.mp hm
    rw [eq_comm, Bool.or_eq_true, decide_eq_true_eq, decide_eq_true_eq]
    exact this
  | false =>
    have : ¬ (a % 1440 < 300 ∨ 1200 ≤ a % 1440 + n - 1) := fun z => by rw [hiff.mpr z] at hm; cases hm
    rw [eq_comm, Bool.or_eq_false_iff, decide_eq_false_iff_not, decide_eq_false_iff_not]
    omega

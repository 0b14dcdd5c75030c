/-! what bars a stay: the class and the reference say the same -/
theorem dec_iff {p q : Prop} {hp : Decidable p} {hq : Decidable q} (h : p ↔ q) : @decide p hp = @decide q hq := by
  by_cases hx : p
  · have hy := h.mp hx
    simp [hx, hy]
  · have hy : ¬ q := fun z => hx (h.mpr z)
    simp [hx, hy]
theorem b1_eq {S : St} {k i : Nat} (h : Rx S k) (hi : (i : Int) < S 20 k) : mB1 S (k : Int) (i : Int) = agW S (k : Int) (i : Int) := by
  obtain ⟨r1, r2, r3, r4, r5⟩ := rx_row h hi
  have h21 := iv_21 h.1 (7 * k + i)
  have h22 := iv_22 h.1 (7 * k + i)
  have h10 := iv_10 h.1 (5 * (S 21 (7 * k + i)).toNat)
  have hle := h.2.2.2.2.2.2.1.2.2.1 (S 21 (7 * k + i)).toNat
  unfold mB1 agW rOf
  rw [pOf_c, fOf_c, ix8, ← r1, ← r2, show (S 21 (7 * k + i) * 5 + 0).toNat = 5 * (S 21 (7 * k + i)).toNat by omega, show (5 * S 21 (7 * k + i)).toNat = 5 * (S 21 (7 * k + i)).toNat by omega, ← h.2.2.1.2.2.2.2.1, ← decide_not, ← Bool.decide_and]
  apply dec_iff
  split <;> split <;> omega
theorem b2_eq {S : St} {k i : Nat} (h : Rx S k) (hi : (i : Int) < S 20 k) : mB2 S (k : Int) (i : Int) = bNt S (k : Int) (i : Int) := by
  obtain ⟨r1, r2, r3, r4, r5⟩ := rx_row h hi
  have h21 := iv_21 h.1 (7 * k + i)
  have h10 := iv_10 h.1 (5 * (S 21 (7 * k + i)).toNat + 1)
  have he := enA_b h.1 (k : Int) (i : Int)
  obtain ⟨t1, t2, t3⟩ := lv_tk h i hi
  unfold mB2 bNt rOf
  rw [pOf_c, Int.toNat_natCast, ix8, ← r1, show (S 21 (7 * k + i) * 5 + 1).toNat = 5 * (S 21 (7 * k + i)).toNat + 1 by omega, show (5 * S 21 (7 * k + i) + 1).toNat = 5 * (S 21 (7 * k + i)).toNat + 1 by omega, ← h.2.2.1.2.2.2.2.1, ← h.2.2.1.2.2.2.2.2.2.2.2.2.2, ← h.2.2.2.1, lv_eq h i hi, Int.toNat_natCast, en_eq h i (by omega)]
  rw [nt_eq he.1 _ (by omega) (by omega)]
  rw [← decide_not]
  congr 1
  · exact dec_iff (by omega)
  · congr 1
    congr 1
    exact dec_iff (by omega)
theorem b3_eq {S : St} {k i : Nat} (h : Rx S k) (hi : (i : Int) < S 20 k) : mB3 S (k : Int) (i : Int) = bWd S (k : Int) (i : Int) := by
  obtain ⟨r1, r2, r3, r4, r5⟩ := rx_row h hi
  have h21 := iv_21 h.1 (7 * k + i)
  unfold mB3 bWd rOf
  rw [pOf_c, Int.toNat_natCast, ix8, ← r1, show (S 21 (7 * k + i) * 5 + 2).toNat = 5 * (S 21 (7 * k + i)).toNat + 2 by omega, show (5 * S 21 (7 * k + i) + 2).toNat = 5 * (S 21 (7 * k + i)).toNat + 2 by omega, ← h.2.2.1.2.2.2.2.1, ← h.2.2.1.2.2.2.2.2.2.2.2.1, ← h.2.2.2.1, h.2.1.2.2.2.1]
theorem clF_iff (S : St) {q a b : Int} (n : Nat) : 0 < clF S q a b n ↔ ∃ j : Nat, j < n ∧ a < S 13 (q * 4 + (j : Int)).toNat ∧ S 12 (q * 4 + (j : Int)).toNat < b := by
  induction n with
  | zero => simp [clF]
  | succ n ih =>
    rw [clF_s]
    have hs : shm a b (S 12 (q * 4 + (n : Int)).toNat) (S 13 (q * 4 + (n : Int)).toNat) = true ↔ a < S 13 (q * 4 + (n : Int)).toNat ∧ S 12 (q * 4 + (n : Int)).toNat < b := by simp [shm]
    by_cases hc : shm a b (S 12 (q * 4 + (n : Int)).toNat) (S 13 (q * 4 + (n : Int)).toNat) = true
    · rw [if_pos hc]
      have := hs.mp hc
      constructor
      · intro _; exact ⟨n, by omega, this⟩
      · intro _; omega
    · rw [if_neg hc, ih]
      constructor
      · rintro ⟨j, h1, h2⟩; exact ⟨j, by omega, h2⟩
      · rintro ⟨j, h1, h2⟩
        by_cases e : j = n
        · subst e; exact absurd (hs.mpr h2) hc
        · exact ⟨j, by omega, h2⟩
theorem mSp_iff (S : St) {q a b : Int} (n g : Nat) : mSp S q a b n g = true ↔ ∃ j : Nat, n ≤ j ∧ j < n + g ∧ S 32 (4 * q + (j : Int)).toNat < b ∧ a < S 33 (4 * q + (j : Int)).toNat := by
  induction g generalizing n with
  | zero => simp [mSp]; intro j h1 h2; omega
  | succ g ih =>
    unfold mSp
    by_cases hc : S 32 (4 * q + (n : Int)).toNat < b ∧ a < S 33 (4 * q + (n : Int)).toNat
    · rw [if_pos hc]
      exact ⟨fun _ => ⟨n, Nat.le_refl _, by omega, hc⟩, fun _ => rfl⟩
    · rw [if_neg hc, ih]
      constructor
      · rintro ⟨j, h1, h2, h3⟩; exact ⟨j, by omega, by omega, h3⟩
      · rintro ⟨j, h1, h2, h3⟩
        by_cases e : j = n
        · subst e; exact absurd h3 hc
        · exact ⟨j, by omega, by omega, h3⟩
theorem sp_iff {S : St} (hB : RB S) {q a b : Int} (n : Nat) : mSp S q a b 0 n = true ↔ 0 < clF S q a b n := by
  rw [mSp_iff, clF_iff, ← hB.2.2.2.2.2.2.1, ← hB.2.2.2.2.2.2.2.1]
  constructor
  · rintro ⟨j, h1, h2, h3, h4⟩
    exact ⟨j, by omega, by rw [Int.mul_comm]; exact h4, by rw [Int.mul_comm]; exact h3⟩
  · rintro ⟨j, h1, h2, h3⟩
    exact ⟨j, by omega, by omega, by rw [Int.mul_comm]; exact h3, by rw [Int.mul_comm]; exact h2⟩
theorem br_eq {S : St} {k i : Nat} (h : Rx S k) (hi : (i : Int) < S 20 k) : mBr S (k : Int) (i : Int) = bPc S (k : Int) (i : Int) := by
  obtain ⟨r1, r2, r3, r4, r5⟩ := rx_row h hi
  unfold mBr bPc
  rw [b1_eq h hi, b2_eq h hi, b3_eq h hi, pOf_c, ix8, ← r1, Int.toNat_natCast, en_eq h i (by omega), lv_eq h i hi, ← h.2.2.1.2.2.2.2.2.1]
  have hs := sp_iff h.2.2.1 (q := S 21 (7 * k + i)) (a := enA S (k : Int) (i : Int)) (b := lvA S (k : Int) (i : Int)) (S 11 (S 21 (7 * k + i)).toNat).toNat
  split
  · rfl
  · split
    · rfl
    · split
      · rfl
      · by_cases hc : 0 < clF S (S 21 (7 * k + i)) (enA S (k : Int) (i : Int)) (lvA S (k : Int) (i : Int)) (S 11 (S 21 (7 * k + i)).toNat).toNat
        · rw [if_pos (hs.mpr hc), if_pos hc]
        · rw [if_neg (fun z => hc (hs.mp z)), if_neg hc]
/-- two stays on one piece -/
theorem bt_eq {S : St} {k i r j : Nat} (h : Rx S k) (hi : (i : Int) < S 20 k) (g : Rx S r) (hj : (j : Int) < S 20 r) (hp : S 21 (7 * r + j) = S 21 (7 * k + i)) (hm : S 24 (12 * r + (S 21 (7 * k + i)).toNat) = (j : Int) + 1) : mBt S (k : Int) (i : Int) (r : Int) (j : Int) = cfw S (r : Int) (k : Int) (i : Int) := by
  obtain ⟨r1, r2, r3, r4, r5⟩ := rx_row h hi
  obtain ⟨q1, q2, q3, q4, q5⟩ := rx_row g hj
  have h21 := iv_21 h.1 (7 * k + i)
  have hle := h.2.2.2.2.2.2.1.2.2.2.1 (S 21 (7 * k + i)).toNat
  have h10 := iv_10 h.1 (5 * (S 21 (7 * k + i)).toNat + 4)
  have hst : stO S (r : Int) (S 21 (7 * k + i)) = (j : Int) := by
    unfold stO
    rw [ix12 r h21.1, hm]
    omega
  unfold mBt cfw
  rw [pOf_c, hst, ix8, ix8, ← r1, ← r2, ← q1, ← q2, hp, Int.toNat_natCast, Int.toNat_natCast, Int.toNat_natCast, Int.toNat_natCast, en_eq h i (by omega), lv_eq h i hi, en_eq g j (by omega), lv_eq g j hj, fOf_c, fOf_c, ← h.2.2.2.1, ← h.2.2.1.2.2.2.1, ← h.2.2.1.2.2.2.2.1, ← h.2.2.1.2.2.2.2.2.2.2.2.1, ← h.2.2.1.2.2.2.2.2.2.2.2.2.2]
  unfold rOf
  rw [show (S 21 (7 * k + i) * 5 + 3).toNat = (5 * S 21 (7 * k + i) + 3).toNat by omega, show (S 21 (7 * k + i) * 5 + 4).toNat = 5 * (S 21 (7 * k + i)).toNat + 4 by omega, show (5 * S 21 (7 * k + i) + 4).toNat = 5 * (S 21 (7 * k + i)).toNat + 4 by omega]
  rw [if_neg (show ¬ (j : Int) = -1 by omega)]
  have hsh : shm (enA S (k : Int) (i : Int)) (lvA S (k : Int) (i : Int)) (enA S (r : Int) (j : Int)) (lvA S (r : Int) (j : Int)) = false ↔ (lvA S (r : Int) (j : Int) ≤ enA S (k : Int) (i : Int) ∨ lvA S (k : Int) (i : Int) ≤ enA S (r : Int) (j : Int)) := by
    unfold shm
    rw [Bool.and_eq_false_iff, decide_eq_false_iff_not, decide_eq_false_iff_not]
    omega
  have hov : ovt S (k : Int) (i : Int) (r : Int) (j : Int) = true ↔ ¬ ((enA S (k : Int) (i : Int) < enA S (r : Int) (j : Int) ∧ lvA S (k : Int) (i : Int) < lvA S (r : Int) (j : Int)) ∨ (enA S (r : Int) (j : Int) < enA S (k : Int) (i : Int) ∧ lvA S (r : Int) (j : Int) < lvA S (k : Int) (i : Int))) := by
    simp only [ovt, Bool.and_eq_true, Bool.not_eq_true', Bool.and_eq_false_iff, decide_eq_false_iff_not]
    omega
  by_cases c1 : shm (enA S (k : Int) (i : Int)) (lvA S (k : Int) (i : Int)) (enA S (r : Int) (j : Int)) (lvA S (r : Int) (j : Int)) = false
  · rw [if_pos c1, if_pos (Or.inr (hsh.mp c1))]
  · rw [if_neg c1, if_neg (fun z => by
      rcases z with z | z
      · exact z rfl
      · exact c1 (hsh.mpr z))]
    split
    · rfl
    · split
      · rfl
      · by_cases c2 : ovt S (k : Int) (i : Int) (r : Int) (j : Int) = true
        · have := hov.mp c2
          by_cases c4 : (S 10 (5 * (S 21 (7 * k + i)).toNat + 4) = 0 ∨ S 9 (S 21 (7 * k + i)).toNat < S 14 (S 18 k).toNat + S 14 (S 18 r).toNat)
          · rw [if_pos ⟨this, c4⟩, if_pos ⟨c2, by omega⟩]
          · rw [if_neg (fun z => c4 z.2), if_neg (fun z => c4 (by have := z.2; omega))]
        · have c3 : ¬ ¬ ((enA S (k : Int) (i : Int) < enA S (r : Int) (j : Int) ∧ lvA S (k : Int) (i : Int) < lvA S (r : Int) (j : Int)) ∨ (enA S (r : Int) (j : Int) < enA S (k : Int) (i : Int) ∧ lvA S (r : Int) (j : Int) < lvA S (k : Int) (i : Int))) := fun z => c2 (hov.mpr z)
          rw [if_neg (fun z => c3 z.1), if_neg (fun z => c2 z.1)]
theorem bt_0 {S : St} {k i r j : Nat} (h : Rx S k) (hi : (i : Int) < S 20 k) (g : Rx S r) (hj : (j : Int) < S 20 r) (hp : ¬ S 21 (7 * r + j) = S 21 (7 * k + i)) : mBt S (k : Int) (i : Int) (r : Int) (j : Int) = 0 := by
  obtain ⟨r1, r2, r3, r4, r5⟩ := rx_row h hi
  obtain ⟨q1, q2, q3, q4, q5⟩ := rx_row g hj
  unfold mBt
  rw [if_pos (Or.inl (by rw [ix8, ix8, ← r1, ← q1]; exact hp))]
theorem wt_one {S : St} {k i r : Int} {j0 : Nat} (n : Nat) (h : ∀ j : Nat, j < n → j ≠ j0 → mBt S k i r (j : Int) = 0) : mWt S k i r n = if j0 < n then mBt S k i r (j0 : Int) else 0 := by
  induction n with
  | zero => rfl
  | succ n ih =>
    have hb := mBt_b S k i r (n : Int)
    have hb0 := mBt_b S k i r (j0 : Int)
    rw [mWt_s, ih (fun j h1 h2 => h j (by omega) h2)]
    by_cases e : n = j0
    · subst e
      rw [if_neg (show ¬ n < n by omega), if_neg (by omega), if_pos (by omega)]
    · rw [h n (by omega) e]
      by_cases c : j0 < n
      · rw [if_pos c, if_pos (show j0 < n + 1 by omega)]
        split <;> omega
      · rw [if_neg c, if_neg (show ¬ j0 < n + 1 by omega)]
        rfl
theorem wt_eq {S : St} {k i r : Nat} (h : Rx S k) (hi : (i : Int) < S 20 k) (g : Rx S r) : mWt S (k : Int) (i : Int) (r : Int) (S 40 (r : Int).toNat).toNat = cfw S (r : Int) (k : Int) (i : Int) := by
  have h21 := iv_21 h.1 (7 * k + i)
  rw [Int.toNat_natCast, ← rx_st g]
  rcases g.2.2.2.2.2.2.2.1.2.2 (S 21 (7 * k + i)).toNat (by omega) with h0 | ⟨j0, h1, h2, h3⟩
  · have hz : ∀ j : Nat, j < (S 20 r).toNat → j ≠ (S 20 r).toNat → mBt S (k : Int) (i : Int) (r : Int) (j : Int) = 0 := by
      intro j hj _
      refine bt_0 h hi g (by omega) (fun e => ?_)
      obtain ⟨q1, q2, q3, q4, q5⟩ := rx_row g (i := j) (by omega)
      rw [e, h0] at q5
      omega
    rw [wt_one _ hz, if_neg (by omega)]
    unfold cfw
    rw [pOf_c, if_pos (by unfold stO; rw [ix12 r h21.1, h0]; rfl)]
  · have hz : ∀ j : Nat, j < (S 20 r).toNat → j ≠ j0 → mBt S (k : Int) (i : Int) (r : Int) (j : Int) = 0 := by
      intro j hj hne
      refine bt_0 h hi g (by omega) (fun e => ?_)
      obtain ⟨q1, q2, q3, q4, q5⟩ := rx_row g (i := j) (by omega)
      rw [e, h2] at q5
      omega
    rw [wt_one _ hz, if_pos (by omega)]
    exact bt_eq h hi g (by omega) (by omega) h2

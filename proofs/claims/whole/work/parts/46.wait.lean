/-! the class's waits: nothing is free before they are over -/
theorem fBr_pos {S : St} {row : Int} (i0 n : Nat) {i : Nat} (h1 : i0 ≤ i) (h2 : i < i0 + n) (hb : ¬ brr S row (i : Int) = 0) : ¬ fBr S row i0 n = 0 := by
  induction n generalizing i0 with
  | zero => omega
  | succ n ih =>
    unfold fBr
    split
    · rename_i hz
      by_cases e : i = i0
      · subst e; exact absurd hz hb
      · exact ih (i0 + 1) (by omega) (by omega)
    · rename_i hz; exact hz
theorem fBr_ex {S : St} {row : Int} (i0 n : Nat) (h : ¬ fBr S row i0 n = 0) : ∃ i : Nat, i0 ≤ i ∧ i < i0 + n ∧ ¬ brr S row (i : Int) = 0 := by
  induction n generalizing i0 with
  | zero => exact absurd rfl h
  | succ n ih =>
    unfold fBr at h
    split at h
    · obtain ⟨i, h1, h2, h3⟩ := ih (i0 + 1) h
      exact ⟨i, by omega, by omega, h3⟩
    · rename_i hz
      exact ⟨i0, Nat.le_refl _, by omega, hz⟩
theorem bSl_iff {S : St} {row i : Int} (n : Nat) : ¬ bSl S row i n = 0 ↔ ∃ k : Nat, 1 ≤ k ∧ k ≤ n ∧ ¬ (k : Int) = row ∧ ¬ S 17 k = 0 ∧ ¬ cfw S (k : Int) row i = 0 := by
  induction n with
  | zero =>
    constructor
    · intro h; exact absurd rfl h
    · rintro ⟨k, h1, h2, -⟩; omega
  | succ n ih =>
    have hc := cfw_b S ((n : Int) + 1) row i
    have hb := bSl_b S row i n
    rw [bSl_s, show ((n : Int) + 1).toNat = n + 1 by omega]
    have ecast : ((n + 1 : Nat) : Int) = (n : Int) + 1 := by omega
    have old : (∃ k : Nat, 1 ≤ k ∧ k ≤ n ∧ ¬ (k : Int) = row ∧ ¬ S 17 k = 0 ∧ ¬ cfw S (k : Int) row i = 0) → ∃ k : Nat, 1 ≤ k ∧ k ≤ n + 1 ∧ ¬ (k : Int) = row ∧ ¬ S 17 k = 0 ∧ ¬ cfw S (k : Int) row i = 0 := by
      rintro ⟨k, h1, h2, h3⟩
      exact ⟨k, h1, by omega, h3⟩
    have drop : (¬ (¬ ((n + 1 : Nat) : Int) = row ∧ ¬ S 17 (n + 1) = 0 ∧ ¬ cfw S ((n + 1 : Nat) : Int) row i = 0)) → (∃ k : Nat, 1 ≤ k ∧ k ≤ n + 1 ∧ ¬ (k : Int) = row ∧ ¬ S 17 k = 0 ∧ ¬ cfw S (k : Int) row i = 0) → ∃ k : Nat, 1 ≤ k ∧ k ≤ n ∧ ¬ (k : Int) = row ∧ ¬ S 17 k = 0 ∧ ¬ cfw S (k : Int) row i = 0 := by
      rintro hno ⟨k, h1, h2, h3⟩
      by_cases e : k = n + 1
      · subst e; exact absurd h3 hno
      · exact ⟨k, h1, by omega, h3⟩
    by_cases c1 : (n : Int) + 1 = row
    · rw [if_pos c1, ih]
      exact ⟨old, drop (fun z => z.1 (by rw [ecast]; exact c1))⟩
    · rw [if_neg c1]
      by_cases c2 : S 17 (n + 1) = 0
      · rw [if_pos c2, ih]
        exact ⟨old, drop (fun z => z.2.1 c2)⟩
      · rw [if_neg c2]
        by_cases c3 : cfw S ((n : Int) + 1) row i = 0
        · rw [if_pos c3, ih]
          exact ⟨old, drop (fun z => z.2.2 (by rw [ecast]; exact c3))⟩
        · rw [if_neg c3]
          constructor
          · intro _
            exact ⟨n + 1, by omega, Nat.le_refl _, by rw [ecast]; exact c1, c2, by rw [ecast]; exact c3⟩
          · intro _
            split <;> omega
theorem brr_iff {S : St} {row i : Int} : ¬ brr S row i = 0 ↔ (¬ bPc S row i = 0 ∨ ¬ bSl S row i (S 3 0).toNat = 0) := by
  unfold brr
  split
  · rename_i h
    constructor
    · intro z; exact Or.inr z
    · rintro (z | z)
      · exact absurd h z
      · exact z
  · rename_i h
    exact ⟨fun _ => Or.inl h, fun _ => h⟩
theorem pWs_at {S : St} {i : Int} (n : Nat) (h : 0 < pWs S i n) : ∃ k : Nat, 1 ≤ k ∧ k ≤ n ∧ ¬ S 17 k = 0 ∧ pWf S (k : Int) i = pWs S i n := by
  induction n with
  | zero => exact absurd h (by simp [pWs])
  | succ n ih =>
    have ecast : ((n + 1 : Nat) : Int) = (n : Int) + 1 := by omega
    rw [pWs_s, show ((n : Int) + 1).toNat = n + 1 by omega] at h ⊢
    by_cases c : S 17 (n + 1) = 0
    · rw [if_pos c] at h ⊢
      obtain ⟨k, h1, h2, h3⟩ := ih h
      exact ⟨k, h1, by omega, h3⟩
    · rw [if_neg c] at h ⊢
      by_cases c2 : pWs S i n < pWf S ((n : Int) + 1) i
      · exact ⟨n + 1, by omega, Nat.le_refl _, c, by rw [ecast]; omega⟩
      · obtain ⟨k, h1, h2, h3, h4⟩ := ih (by omega)
        exact ⟨k, h1, by omega, h3, by omega⟩
theorem pWs_ge {S : St} {i : Int} (n : Nat) {k : Nat} (h1 : 1 ≤ k) (h2 : k ≤ n) (h3 : ¬ S 17 k = 0) : pWf S (k : Int) i ≤ pWs S i n := by
  induction n with
  | zero => omega
  | succ n ih =>
    rw [pWs_s, show ((n : Int) + 1).toNat = n + 1 by omega]
    by_cases e : k = n + 1
    · subst e
      rw [if_neg h3, show ((n + 1 : Nat) : Int) = (n : Int) + 1 by omega]
      omega
    · have := ih (by omega)
      split <;> omega
theorem pWt_at {S : St} (n : Nat) (h : 0 < pWt S n) : ∃ i : Nat, i < n ∧ (pWp S (i : Int) = pWt S n ∨ pWs S (i : Int) (S 3 0).toNat = pWt S n) := by
  induction n with
  | zero => exact absurd h (by simp [pWt])
  | succ n ih =>
    rw [pWt_s] at h ⊢
    by_cases c : pWt S n < max (pWp S (n : Int)) (pWs S (n : Int) (S 3 0).toNat)
    · refine ⟨n, by omega, ?_⟩
      by_cases c2 : pWp S (n : Int) < pWs S (n : Int) (S 3 0).toNat
      · exact Or.inr (by omega)
      · exact Or.inl (by omega)
    · obtain ⟨i, h1, h2⟩ := ih (by omega)
      exact ⟨i, by omega, by omega⟩
theorem pWt_ge {S : St} (n : Nat) {i : Nat} (hi : i < n) : pWp S (i : Int) ≤ pWt S n ∧ pWs S (i : Int) (S 3 0).toNat ≤ pWt S n := by
  induction n with
  | zero => omega
  | succ n ih =>
    rw [pWt_s]
    by_cases e : i = n
    · subst e; omega
    · have := ih (by omega)
      omega
theorem clF_at {S : St} {q a b : Int} (n : Nat) (h : 0 < clF S q a b n) : ∃ j : Nat, j < n ∧ a < S 13 (q * 4 + (j : Int)).toNat ∧ S 12 (q * 4 + (j : Int)).toNat < b ∧ clF S q a b n = S 13 (q * 4 + (j : Int)).toNat - a := by
  induction n with
  | zero => exact absurd h (by simp [clF])
  | succ n ih =>
    rw [clF_s] at h ⊢
    have hs : shm a b (S 12 (q * 4 + (n : Int)).toNat) (S 13 (q * 4 + (n : Int)).toNat) = true ↔ a < S 13 (q * 4 + (n : Int)).toNat ∧ S 12 (q * 4 + (n : Int)).toNat < b := by simp [shm]
    by_cases c : shm a b (S 12 (q * 4 + (n : Int)).toNat) (S 13 (q * 4 + (n : Int)).toNat) = true
    · rw [if_pos c] at h ⊢
      have c' := hs.mp c
      by_cases c2 : clF S q a b n < S 13 (q * 4 + (n : Int)).toNat - a
      · exact ⟨n, by omega, c'.1, c'.2, by omega⟩
      · obtain ⟨j, h1, h2, h3, h4⟩ := ih (by omega)
        exact ⟨j, by omega, h2, h3, by omega⟩
    · rw [if_neg c] at h ⊢
      obtain ⟨j, h1, h2⟩ := ih h
      exact ⟨j, by omega, h2⟩
/-! the plan at another beginning -/
theorem en_b (C : St) (v : Int) (i : Int) : enA (s_up C 19 0 v) 0 i = v + C 23 (0 * 8 + i).toNat := by
  unfold enA
  show s_up C 19 0 v 19 0 + _ = _
  rw [s_up_self, s_up_cell (by decide)]
theorem lv_b (C : St) (v : Int) (i : Int) : lvA (s_up C 19 0 v) 0 i = v + C 23 (0 * 8 + i + 1).toNat := by
  unfold lvA
  show s_up C 19 0 v 19 0 + _ = _
  rw [s_up_self, s_up_cell (by decide)]
theorem en_k (C : St) (v : Int) {k : Int} (hk : 1 ≤ k) (i : Int) : enA (s_up C 19 0 v) k i = enA C k i := by
  unfold enA
  rw [s_up_ne (by omega), s_up_cell (by decide)]
theorem lv_k (C : St) (v : Int) {k : Int} (hk : 1 ≤ k) (i : Int) : lvA (s_up C 19 0 v) k i = lvA C k i := by
  unfold lvA
  rw [s_up_ne (by omega), s_up_cell (by decide)]
theorem b_pOf (C : St) (v r i : Int) : pOf (s_up C 19 0 v) r i = pOf C r i := by unfold pOf; rw [s_up_cell (by decide)]
theorem b_fOf (C : St) (v r i : Int) : fOf (s_up C 19 0 v) r i = fOf C r i := by unfold fOf; rw [s_up_cell (by decide)]
theorem b_stO (C : St) (v r q : Int) : stO (s_up C 19 0 v) r q = stO C r q := by unfold stO; rw [s_up_cell (by decide)]
theorem b_rOf (C : St) (v q k : Int) : rOf (s_up C 19 0 v) q k = rOf C q k := by unfold rOf; rw [s_up_cell (by decide)]
theorem b_agW (C : St) (v r i : Int) : agW (s_up C 19 0 v) r i = agW C r i := by unfold agW; rw [b_rOf, b_pOf, b_fOf]
theorem b_bWd (C : St) (v r i : Int) : bWd (s_up C 19 0 v) r i = bWd C r i := by unfold bWd; rw [b_rOf, b_pOf, s_up_cell (by decide), s_up_cell (by decide), s_up_cell (by decide)]
theorem b_clF (C : St) (v q a b : Int) (n : Nat) : clF (s_up C 19 0 v) q a b n = clF C q a b n := by
  induction n with
  | zero => rfl
  | succ n ih => rw [clF_s, clF_s, ih, s_up_cell (by decide), s_up_cell (by decide)]
/-- a stay's times -/
def nE (C : St) (i : Int) : Int := C 23 (0 * 8 + i).toNat
def nL (C : St) (i : Int) : Int := C 23 (0 * 8 + i + 1).toNat
theorem bNt_b (C : St) (v i : Int) : bNt (s_up C 19 0 v) 0 i = true ↔ ((¬ rOf C (pOf C 0 i) 1 = 0 ∧ rOf C (pOf C 0 i) 1 ≤ C 16 (C 18 0).toNat) ∧ ((v + nE C i) % 1440 < 300 ∨ 1200 ≤ (v + nE C i) % 1440 + (v + nL C i) - (v + nE C i) - 1)) := by
  unfold bNt
  rw [b_rOf, b_pOf, en_b, lv_b, s_up_cell (show 16 ≠ 19 by decide), s_up_cell (show 18 ≠ 19 by decide)]
  simp only [Bool.and_eq_true, Bool.or_eq_true, Bool.not_eq_true', decide_eq_true_eq, decide_eq_false_iff_not]
  unfold nE nL
  exact ⟨fun h => ⟨⟨h.1, h.2.1⟩, h.2.2⟩, fun h => ⟨h.1.1, h.1.2, h.2⟩⟩
theorem bPc_b0 (C : St) (v i : Int) : ¬ bPc (s_up C 19 0 v) 0 i = 0 ↔ (agW C 0 i = true ∨ bNt (s_up C 19 0 v) 0 i = true ∨ bWd C 0 i = true ∨ 0 < clF C (pOf C 0 i) (v + nE C i) (v + nL C i) (C 11 (pOf C 0 i).toNat).toNat) := by
  unfold bPc
  rw [b_agW, b_bWd, b_pOf, en_b, lv_b, b_clF, s_up_cell (show 11 ≠ 19 by decide)]
  unfold nE nL
  by_cases c1 : agW C 0 i = true
  · rw [if_pos c1]; simp [c1]
  · rw [if_neg c1]
    by_cases c2 : bNt (s_up C 19 0 v) 0 i = true
    · rw [if_pos c2]; simp [c2]
    · rw [if_neg c2]
      by_cases c3 : bWd C 0 i = true
      · rw [if_pos c3]; simp [c3]
      · rw [if_neg c3]
        split
        · rename_i c4
          exact ⟨fun _ => Or.inr (Or.inr (Or.inr c4)), fun _ => by decide⟩
        · rename_i c4
          refine ⟨fun z => absurd rfl z, fun z => ?_⟩
          rcases z with z | z | z | z
          · exact absurd z c1
          · exact absurd z c2
          · exact absurd z c3
          · exact absurd z c4
/-! another slot's stay against the plan's, as the plan moves -/
def cKd (C : St) (k i : Int) : Int :=
  if C 16 (C 18 0).toNat = 2 ∨ C 16 (C 18 k.toNat).toNat = 2 then 5
  else if ¬ fOf C 0 i = fOf C k (stO C k (pOf C 0 i)) then (if rOf C (pOf C 0 i) 3 = 1 ∨ C 9 (pOf C 0 i).toNat < C 14 (C 18 0).toNat + C 14 (C 18 k.toNat).toNat then 6 else 0)
  else if (¬ rOf C (pOf C 0 i) 4 = 1 ∨ C 9 (pOf C 0 i).toNat < C 14 (C 18 0).toNat + C 14 (C 18 k.toNat).toNat) then 7 else 0
theorem cfw_b0 (C : St) (v : Int) {k i : Int} (hk : 1 ≤ k) : cfw (s_up C 19 0 v) k 0 i =
    if stO C k (pOf C 0 i) = -1 then 0
    else if ¬ (v + nE C i < lvA C k (stO C k (pOf C 0 i)) ∧ enA C k (stO C k (pOf C 0 i)) < v + nL C i) then 0
    else if cKd C k i = 7 ∧ ((v + nE C i < enA C k (stO C k (pOf C 0 i)) ∧ v + nL C i < lvA C k (stO C k (pOf C 0 i))) ∨ (enA C k (stO C k (pOf C 0 i)) < v + nE C i ∧ lvA C k (stO C k (pOf C 0 i)) < v + nL C i)) then 0 else cKd C k i := by
  unfold cfw
  rw [b_pOf, b_stO, en_b, lv_b, en_k C v hk, lv_k C v hk, b_fOf, b_fOf, b_rOf, b_rOf, s_up_cell (show 16 ≠ 19 by decide), s_up_cell (show 18 ≠ 19 by decide), s_up_cell (show 9 ≠ 19 by decide), s_up_cell (show 14 ≠ 19 by decide)]
  simp only [Int.toNat_zero]
  have hsh : ∀ a b c d : Int, shm a b c d = false ↔ ¬ (a < d ∧ c < b) := by
    intro a b c d
    unfold shm
    rw [Bool.and_eq_false_iff, decide_eq_false_iff_not, decide_eq_false_iff_not]
    omega
  have hov : ovt (s_up C 19 0 v) 0 i k (stO C k (pOf C 0 i)) = true ↔ ¬ ((v + nE C i < enA C k (stO C k (pOf C 0 i)) ∧ v + nL C i < lvA C k (stO C k (pOf C 0 i))) ∨ (enA C k (stO C k (pOf C 0 i)) < v + nE C i ∧ lvA C k (stO C k (pOf C 0 i)) < v + nL C i)) := by
    unfold ovt
    rw [en_b, lv_b, en_k C v hk, lv_k C v hk]
    unfold nE nL
    simp only [Bool.and_eq_true, Bool.not_eq_true', Bool.and_eq_false_iff, decide_eq_false_iff_not]
    omega
  split
  · rfl
  · have e1 : (shm (v + C 23 (0 * 8 + i).toNat) (v + C 23 (0 * 8 + i + 1).toNat) (enA C k (stO C k (pOf C 0 i))) (lvA C k (stO C k (pOf C 0 i))) = false) = (¬ (v + nE C i < lvA C k (stO C k (pOf C 0 i)) ∧ enA C k (stO C k (pOf C 0 i)) < v + nL C i)) := propext (hsh _ _ _ _)
    simp only [e1]
    split
    · rfl
    · unfold cKd
      show (if C 16 (C 18 0).toNat = 2 ∨ C 16 (C 18 k.toNat).toNat = 2 then (5 : Int) else _) = _
      by_cases c1 : C 16 (C 18 0).toNat = 2 ∨ C 16 (C 18 k.toNat).toNat = 2
      · simp only [if_pos c1]
        rw [if_neg (by omega)]
      · simp only [if_neg c1]
        by_cases c2 : ¬ fOf C 0 i = fOf C k (stO C k (pOf C 0 i))
        · simp only [if_pos c2]
          by_cases c5 : rOf C (pOf C 0 i) 3 = 1 ∨ C 9 (pOf C 0 i).toNat < C 14 (C 18 0).toNat + C 14 (C 18 k.toNat).toNat
          · simp [c5]
          · simp [c5]
        · simp only [if_neg c2]
          by_cases c3 : (¬ rOf C (pOf C 0 i) 4 = 1 ∨ C 9 (pOf C 0 i).toNat < C 14 (C 18 0).toNat + C 14 (C 18 k.toNat).toNat)
          · simp only [if_pos c3]
            by_cases c4 : ovt (s_up C 19 0 v) 0 i k (stO C k (pOf C 0 i)) = true
            · rw [if_pos ⟨c4, c3⟩, if_neg (fun z => hov.mp c4 z.2)]
            · rw [if_neg (fun z => c4 z.1), if_pos ⟨trivial, by
                apply Classical.byContradiction
                intro z
                exact c4 (hov.mpr z)⟩]
          · simp only [if_neg c3]
            rw [if_neg (fun z => c3 z.2), if_neg (by omega)]

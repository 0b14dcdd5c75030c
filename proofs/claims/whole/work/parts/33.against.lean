/-! all that bars a row -/
theorem rel_rx {S : St} (h : Rel S) {k : Nat} (h1 : 1 ≤ k) (h2 : (k : Int) ≤ S 3 0) : Rx S k := by
  obtain ⟨hI, hA, hB, hC, hL, hR⟩ := h
  obtain ⟨r1, r2⟩ := hR k h1 h2
  have h18 := iv_18 hI k
  exact ⟨hI, hA, hB, hC.2.1, hC.2.2.2, hC.1, hL, r1, hC.2.2.1 k (by omega), hL.2.1 (S 18 k).toNat (by omega)⟩
/-- a row, and every slot -/
def Ry (S : St) (k : Nat) : Prop := Rx S k ∧ ∀ r : Nat, 1 ≤ r → (r : Int) ≤ S 3 0 → Rx S r
theorem cfw_v (S : St) (k row i : Int) : cfw S k row i = 0 ∨ 5 ≤ cfw S k row i := by
  unfold cfw
  repeat (first | omega | split)
def bfo (f : Nat → Int) : Nat → Nat → Int → Int
  | _, 0, L => L
  | g, n + 1, L => bfo f (g + 1) n (mUp L (f g))
theorem bfo_5 (f : Nat → Int) (hf : ∀ g, f g = 0 ∨ 5 ≤ f g) (g n : Nat) : bfo f g n 5 = 5 := by
  induction n generalizing g with
  | zero => rfl
  | succ n ih =>
    unfold bfo
    have : mUp 5 (f g) = 5 := by
      unfold mUp
      have := hf g
      rw [if_neg (by omega)]
    rw [this]
    exact ih (g + 1)
theorem mIn_bfo (S : St) (k i w : Int) (hf : ∀ g : Nat, mGv S k i w (g : Int) = 0 ∨ 5 ≤ mGv S k i w (g : Int)) (g n : Nat) (L : Int) (hL : L = 0 ∨ 5 ≤ L) : mIn S k i w g n L = bfo (fun g => mGv S k i w (g : Int)) g n L := by
  induction n generalizing g L with
  | zero => rfl
  | succ n ih =>
    unfold mIn bfo
    split
    · have h1 := hf g
      refine ih (g + 1) _ ?_
      unfold mUp
      split <;> omega
    · have e : L = 5 := by omega
      subst e
      have : mUp 5 (mGv S k i w (g : Int)) = 5 := by
        unfold mUp
        have := hf g
        rw [if_neg (by omega)]
      rw [this]
      exact (bfo_5 _ hf (g + 1) n).symm
theorem bSl_bfo (S : St) (k : Nat) (i : Nat) (f : Nat → Int) (N : Nat) (hf : ∀ g : Nat, 1 ≤ g → g ≤ N → f g = if ¬ S 17 g = 0 ∧ ¬ (g : Int) = (k : Int) then cfw S (g : Int) (k : Int) (i : Int) else 0) (m n : Nat) (h : m + n ≤ N) : bfo f (m + 1) n (bSl S (k : Int) (i : Int) m) = bSl S (k : Int) (i : Int) (m + n) := by
  induction n generalizing m with
  | zero => rfl
  | succ n ih =>
    have hs : mUp (bSl S (k : Int) (i : Int) m) (f (m + 1)) = bSl S (k : Int) (i : Int) (m + 1) := by
      have hc := cfw_b S ((m : Int) + 1) (k : Int) (i : Int)
      have hb := bSl_b S (k : Int) (i : Int) m
      have fv := hf (m + 1) (by omega) (by omega)
      rw [show ((m + 1 : Nat) : Int) = (m : Int) + 1 by omega] at fv
      rw [bSl_s, show ((m : Int) + 1).toNat = m + 1 by omega]
      by_cases c1 : (m : Int) + 1 = (k : Int)
      · rw [if_neg (fun z => z.2 c1)] at fv
        rw [if_pos c1, fv]
        unfold mUp
        rw [if_neg (by omega)]
      · rw [if_neg c1]
        by_cases c2 : S 17 (m + 1) = 0
        · rw [if_neg (fun z => z.1 c2)] at fv
          rw [if_pos c2, fv]
          unfold mUp
          rw [if_neg (by omega)]
        · rw [if_pos ⟨c2, c1⟩] at fv
          rw [if_neg c2, fv]
          unfold mUp
          by_cases c3 : cfw S ((m : Int) + 1) (k : Int) (i : Int) = 0
          · rw [if_pos c3, c3, if_neg (by omega)]
          · rw [if_neg c3]
            by_cases c4 : bSl S (k : Int) (i : Int) m = 0 ∨ cfw S ((m : Int) + 1) (k : Int) (i : Int) < bSl S (k : Int) (i : Int) m
            · rw [if_pos c4, if_pos ⟨by omega, c4⟩]
            · rw [if_neg c4, if_neg (fun z => c4 z.2)]
    show bfo f (m + 1 + 1) n (mUp (bSl S (k : Int) (i : Int) m) (f (m + 1))) = _
    rw [hs, ih (m + 1) (by omega)]
    congr 1
    omega
theorem gv_eq {S : St} {k i : Nat} (h : Ry S k) (hi : (i : Int) < S 20 k) (g : Nat) (h1 : 1 ≤ g) (h2 : (g : Int) ≤ S 3 0) : mGv S (k : Int) (i : Int) (k : Int) (g : Int) = if ¬ S 17 g = 0 ∧ ¬ (g : Int) = (k : Int) then cfw S (g : Int) (k : Int) (i : Int) else 0 := by
  unfold mGv
  rw [wt_eq h.1 hi (h.2 g h1 h2), Int.toNat_natCast, ← h.1.2.2.2.2.2.1]
theorem ai_eq {S : St} {k i : Nat} (h : Ry S k) (hi : (i : Int) < S 20 k) : mAi S (k : Int) (i : Int) (k : Int) = brr S (k : Int) (i : Int) := by
  have h3 := iv_3 h.1.1 0
  have hb := bPc_b S (k : Int) (i : Int)
  unfold mAi brr
  rw [br_eq h.1 hi, ← h.1.2.1.2.2.1]
  by_cases c : bPc S (k : Int) (i : Int) = 0
  · rw [if_pos c, c]
    -- only the slots' numbers matter
    have key : ∀ (f1 f2 : Nat → Int) (g n : Nat) (L : Int), (∀ x, g ≤ x → x < g + n → f1 x = f2 x) → bfo f1 g n L = bfo f2 g n L := by
      intro f1 f2 g n
      induction n generalizing g with
      | zero => intro L _; rfl
      | succ n ih =>
        intro L hx
        unfold bfo
        rw [hx g (by omega) (by omega)]
        exact ih (g + 1) _ (fun x a b => hx x (by omega) (by omega))
    have kin : ∀ (g n : Nat) (L : Int), 1 ≤ g → g + n ≤ (S 3 0).toNat + 1 → (L = 0 ∨ 5 ≤ L) → mIn S (k : Int) (i : Int) (k : Int) g n L = bfo (fun g => mGv S (k : Int) (i : Int) (k : Int) (g : Int)) g n L := by
      intro g n
      induction n generalizing g with
      | zero => intros; rfl
      | succ n ih =>
        intro L h1 h2 hL
        have hv : mGv S (k : Int) (i : Int) (k : Int) (g : Int) = 0 ∨ 5 ≤ mGv S (k : Int) (i : Int) (k : Int) (g : Int) := by
          rw [gv_eq h hi g h1 (by omega)]
          have := cfw_v S (g : Int) (k : Int) (i : Int)
          split <;> omega
        unfold mIn bfo
        split
        · refine ih (g + 1) _ (by omega) (by omega) ?_
          unfold mUp
          split <;> omega
        · have e : L = 5 := by omega
          subst e
          have h5 : ∀ (n g : Nat), 1 ≤ g → g + n ≤ (S 3 0).toNat + 1 → bfo (fun g => mGv S (k : Int) (i : Int) (k : Int) (g : Int)) g n 5 = 5 := by
            intro n
            induction n with
            | zero => intros; rfl
            | succ n ih2 =>
              intro g h1 h2
              have hv : mGv S (k : Int) (i : Int) (k : Int) (g : Int) = 0 ∨ 5 ≤ mGv S (k : Int) (i : Int) (k : Int) (g : Int) := by
                rw [gv_eq h hi g h1 (by omega)]
                have := cfw_v S (g : Int) (k : Int) (i : Int)
                split <;> omega
              unfold bfo
              rw [show mUp 5 (mGv S (k : Int) (i : Int) (k : Int) (g : Int)) = 5 by unfold mUp; rw [if_neg (by omega)]]
              exact ih2 (g + 1) (by omega) (by omega)
          exact (h5 (n + 1) g h1 (by omega)).symm
    rw [kin 1 _ 0 (Nat.le_refl _) (by omega) (Or.inl rfl)]
    have := bSl_bfo S k i (fun g => mGv S (k : Int) (i : Int) (k : Int) (g : Int)) (S 3 0).toNat (fun g h1 h2 => gv_eq h hi g h1 (by omega)) 0 (S 3 0).toNat (by omega)
    rw [Nat.zero_add] at this
    rw [Nat.zero_add] at this
    exact this
  · rw [if_neg c, mIn_e _ _ _ _ _ _ _ (by omega)]
theorem ag_go {S : St} {k : Nat} (h : Ry S k) (i n : Nat) (hn : ((i + n : Nat) : Int) ≤ S 20 k) : mAg S (k : Int) (k : Int) i n = fBr S (k : Int) i n := by
  induction n generalizing i with
  | zero => rfl
  | succ n ih =>
    have hb := brr_b S (k : Int) (i : Int)
    unfold mAg fBr
    rw [ai_eq h (by omega), ih (i + 1) (by omega)]
    by_cases c : brr S (k : Int) (i : Int) = 0
    · rw [if_neg (by omega), if_pos c]
    · rw [if_pos (by omega), if_neg c]
theorem ag_eq {S : St} {k : Nat} (h : Ry S k) : mAg S (k : Int) (k : Int) 0 (S 40 (k : Int).toNat).toNat = fBr S (k : Int) 0 (S 20 (k : Int).toNat).toNat := by
  have h20 := iv_20 h.1.1 k
  rw [Int.toNat_natCast, ← rx_st h.1]
  exact ag_go h 0 _ (by omega)

/-! call by call: the simple ones -/
theorem ag_J {C M : St} {k : Nat} (h : Ry (Jn C M) k) : mAg M (k : Int) (k : Int) 0 (M 40 (k : Int).toNat).toNat = fBr C (k : Int) 0 (C 20 (k : Int).toNat).toNat := by
  have := ag_eq h
  rw [mAg_ms, ms_J, ← mAg_ms, fBr_rs, rs_J, ← fBr_rs, J_lo (show 20 < 25 by decide), J_hi (show ¬ 40 < 25 by decide)] at this
  exact this
theorem rel_hp {S : St} (h : Rel S) : ∀ j : Nat, (j : Int) < S 25 10 → 1 ≤ S 35 j := by
  obtain ⟨hI, hA, hB, hC, hL, hR⟩ := h
  rw [← hA.2.1, ← hB.2.2.2.2.2.2.2.2.2.1]
  exact hL.2.1
theorem rel_hl {S : St} (h : Rel S) : ∀ j : Nat, (j : Int) < S 25 1 → 1 ≤ S 28 j := by
  obtain ⟨hI, hA, hB, hC, hL, hR⟩ := h
  rw [← hA.1, ← hB.2.2.1]
  exact hL.1
theorem rel_so {S : St} (h : Rel S) : ∀ j : Nat, 0 < S 40 j → 1 ≤ S 35 (S 37 j).toNat := by
  obtain ⟨hI, hA, hB, hC, hL, hR⟩ := h
  rw [← hC.2.2.2, ← hB.2.2.2.2.2.2.2.2.2.1, ← hC.2.1]
  intro j hj
  have h1 := iv_18 hI j
  have h2 := hL.2.2.2.2.1 j hj
  exact hL.2.1 _ (by omega)
/-- what a row says stays, where its cells stay -/
theorem Rw.cg {S T : St} {k : Nat} (h : Rw S k) (h1 : S 1 0 ≤ T 1 0) (h18 : T 18 k = S 18 k) (h20 : T 20 k = S 20 k) (h8 : ∀ j : Nat, (j : Int) < S 1 0 → T 8 j = S 8 j) (h15 : T 15 (S 18 k).toNat = S 15 (S 18 k).toNat) (h21 : ∀ i, i < 7 → T 21 (7 * k + i) = S 21 (7 * k + i) ∧ T 22 (7 * k + i) = S 22 (7 * k + i)) (h23 : ∀ i, i < 8 → T 23 (8 * k + i) = S 23 (8 * k + i)) (h24 : ∀ i, i < 12 → T 24 (12 * k + i) = S 24 (12 * k + i)) (h41 : ∀ i, i < 8 → T 41 (8 * k + i) = S 41 (8 * k + i) ∧ T 42 (8 * k + i) = S 42 (8 * k + i)) (hI : Inv S) : Rw T k := by
  have i20 := iv_20 hI k
  refine ⟨?_, ?_, ?_⟩
  · have := h23 0 (by decide)
    rw [Nat.add_zero] at this
    rw [this]
    exact h.1
  · intro i hi
    rw [h20] at hi
    obtain ⟨r1, r2, r3, r4, r5⟩ := h.2.1 i hi
    have i21 := iv_21 hI (7 * k + i)
    rw [(h21 i (by omega)).1, (h21 i (by omega)).2, (h41 i (by omega)).1, (h41 i (by omega)).2, show 8 * k + i + 1 = 8 * k + (i + 1) by omega, h23 (i + 1) (by omega), h23 i (by omega), h24 _ (by omega), h18]
    refine ⟨r1, r2, by omega, ?_, r5⟩
    have e : tTm T (S 18 k) (S 21 (7 * k + i)) = tTm S (S 18 k) (S 21 (7 * k + i)) := by
      unfold tTm
      rw [h15, h8 (S 21 (7 * k + i)).toNat (by omega)]
    rw [e]
    exact r4
  · intro q hq
    rw [h24 q hq, h20]
    rcases h.2.2 q hq with h0 | ⟨i, a1, a2, a3⟩
    · exact Or.inl h0
    · exact Or.inr ⟨i, a1, a2, by rw [(h21 i (by omega)).1]; exact a3⟩
/-- the relation doesn't look at scratch, at what was thrown, at the law's own cell -/
theorem Rel.cg {S T : St} (h : Rel S) (hI : Inv T) (hc : ∀ c, c < 44 → c ≠ 4 → c ≠ 5 → c ≠ 25 → c ≠ 43 → T c = S c) (h25 : ∀ j, j ≠ 0 → T 25 j = S 25 j) : Rel T := by
  obtain ⟨hI0, hA, hB, hC, hL, hR⟩ := h
  have e : ∀ {c : Nat}, (c < 44 ∧ c ≠ 4 ∧ c ≠ 5 ∧ c ≠ 25 ∧ c ≠ 43) → T c = S c := fun h => hc _ h.1 h.2.1 h.2.2.1 h.2.2.2.1 h.2.2.2.2
  refine ⟨hI, ?_, ?_, ?_, ?_, ?_⟩
  · unfold RA
    rw [e (c := 1) (by decide), e (c := 2) (by decide), e (c := 3) (by decide), e (c := 0) (by decide), h25 1 (by decide), h25 10 (by decide), h25 16 (by decide), h25 14 (by decide), h25 15 (by decide)]
    exact hA
  · unfold RB
    rw [e (c := 6) (by decide), e (c := 7) (by decide), e (c := 8) (by decide), e (c := 9) (by decide), e (c := 10) (by decide), e (c := 11) (by decide), e (c := 12) (by decide), e (c := 13) (by decide), e (c := 14) (by decide), e (c := 15) (by decide), e (c := 16) (by decide), e (c := 26) (by decide), e (c := 27) (by decide), e (c := 28) (by decide), e (c := 29) (by decide), e (c := 30) (by decide), e (c := 31) (by decide), e (c := 32) (by decide), e (c := 33) (by decide), e (c := 34) (by decide), e (c := 35) (by decide), e (c := 36) (by decide)]
    exact hB
  · unfold RC
    rw [e (c := 17) (by decide), e (c := 18) (by decide), e (c := 19) (by decide), e (c := 20) (by decide), e (c := 37) (by decide), e (c := 38) (by decide), e (c := 39) (by decide), e (c := 40) (by decide)]
    exact hC
  · unfold RL
    rw [e (c := 1) (by decide), e (c := 2) (by decide), e (c := 8) (by decide), e (c := 15) (by decide), e (c := 10) (by decide), e (c := 20) (by decide), e (c := 18) (by decide), e (c := 23) (by decide)]
    exact hL
  · intro k h1 h2
    rw [e (c := 3) (by decide)] at h2
    obtain ⟨r1, r2⟩ := hR k h1 h2
    refine ⟨?_, by rw [e (c := 18) (by decide), e (c := 2) (by decide)]; exact r2⟩
    unfold Rw tTm
    rw [e (c := 1) (by decide), e (c := 8) (by decide), e (c := 15) (by decide), e (c := 18) (by decide), e (c := 20) (by decide), e (c := 21) (by decide), e (c := 22) (by decide), e (c := 23) (by decide), e (c := 24) (by decide), e (c := 41) (by decide), e (c := 42) (by decide)]
    exact r1
theorem Inv.cg {S T : St} (h : Inv S) (hc : ∀ c, c < 44 → T c = S c) : Inv T := by
  intro q j hq
  rw [hc q hq]
  exact h q j hq
/-- the same but for the law's cell -/
def Sm (S T : St) : Prop := ∀ c, c ≠ 44 → T c = S c
theorem Sm.inv {S T : St} (h : Sm S T) (hI : Inv S) : Inv T := hI.cg (fun c hc => h c (by omega))
theorem Sm.rel {S T : St} (h : Sm S T) (hR : Rel S) : Rel T := hR.cg (h.inv hR.1) (fun c h5 _ _ _ _ => h c (by omega)) (fun j _ => by rw [h 25 (by decide)])
theorem th_rel {S : St} (hR : Rel S) {x : Int} (hx : 0 ≤ x ∧ x ≤ 2) : Rel (s_up S 25 0 x) :=
  hR.cg (Inv.up (q := 25) hR.1 hx.1 (show _ ≤ 2 by omega)) (fun c _ _ _ h3 _ => s_up_cell h3) (fun j hj => s_up_ne hj)
/-- wind -/
theorem e_wind {S : St} (h : Rel S) {x : Int} (hx : x = 0 ∨ x = 1) : let C := (if S 0 5 = x then S else s_up S 0 5 x); (if (s_up C 25 0 0) 25 14 = x then (0 : Int) else 1) = (if S 0 5 = x then 0 else 1) ∧ Rel (s_up (s_up C 25 0 0) 25 14 x) := by
  intro C
  have hA := h.2.1.2.2.2.1
  have hc14 : s_up C 25 0 0 25 14 = S 25 14 := by
    rw [s_up_ne (by decide)]
    show (if S 0 5 = x then S else s_up S 0 5 x) 25 14 = _
    split
    · rfl
    · rw [s_up_cell (by decide)]
  refine ⟨by rw [hc14, ← hA], ?_⟩
  have hC : C = s_up S 0 5 x := by
    show (if S 0 5 = x then S else s_up S 0 5 x) = _
    split
    · rename_i e
      funext c j
      rw [s_up_at]
      split
      · rename_i z
        rw [z.1, z.2, e]
      · rfl
    · rfl
  rw [hC]
  obtain ⟨hI0, hA0, hB, hC0, hL, hR⟩ := h
  have hI : Inv (s_up (s_up (s_up S 0 5 x) 25 0 0) 25 14 x) := Inv.up (q := 25) (Inv.up (q := 25) (Inv.up (q := 0) hI0 (by omega) (show _ ≤ (1 : Int) by omega)) (by decide) (show (0 : Int) ≤ 2 by decide)) (by omega) (show _ ≤ (1 : Int) by omega)
  have e : ∀ {c : Nat}, (c ≠ 0 ∧ c ≠ 25) → s_up (s_up (s_up S 0 5 x) 25 0 0) 25 14 x c = S c := fun h => by rw [s_up_cell h.2, s_up_cell h.2, s_up_cell h.1]
  refine ⟨hI, ?_, ?_, ?_, ?_, ?_⟩
  · unfold RA
    rw [e (c := 1) (by decide), e (c := 2) (by decide), e (c := 3) (by decide)]
    simp [s_up_at]
    exact ⟨hA0.1, hA0.2.1, hA0.2.2.1, hA0.2.2.2.2⟩
  · unfold RB
    rw [e (c := 6) (by decide), e (c := 7) (by decide), e (c := 8) (by decide), e (c := 9) (by decide), e (c := 10) (by decide), e (c := 11) (by decide), e (c := 12) (by decide), e (c := 13) (by decide), e (c := 14) (by decide), e (c := 15) (by decide), e (c := 16) (by decide), e (c := 26) (by decide), e (c := 27) (by decide), e (c := 28) (by decide), e (c := 29) (by decide), e (c := 30) (by decide), e (c := 31) (by decide), e (c := 32) (by decide), e (c := 33) (by decide), e (c := 34) (by decide), e (c := 35) (by decide), e (c := 36) (by decide)]
    exact hB
  · unfold RC
    rw [e (c := 17) (by decide), e (c := 18) (by decide), e (c := 19) (by decide), e (c := 20) (by decide), e (c := 37) (by decide), e (c := 38) (by decide), e (c := 39) (by decide), e (c := 40) (by decide)]
    exact hC0
  · unfold RL
    rw [e (c := 1) (by decide), e (c := 2) (by decide), e (c := 8) (by decide), e (c := 15) (by decide), e (c := 10) (by decide), e (c := 20) (by decide), e (c := 18) (by decide), e (c := 23) (by decide)]
    exact hL
  · intro k h1 h2
    rw [e (c := 3) (by decide)] at h2
    obtain ⟨r1, r2⟩ := hR k h1 h2
    refine ⟨?_, by rw [e (c := 18) (by decide), e (c := 2) (by decide)]; exact r2⟩
    unfold Rw tTm
    rw [e (c := 1) (by decide), e (c := 8) (by decide), e (c := 15) (by decide), e (c := 18) (by decide), e (c := 20) (by decide), e (c := 21) (by decide), e (c := 22) (by decide), e (c := 23) (by decide), e (c := 24) (by decide), e (c := 41) (by decide), e (c := 42) (by decide)]
    exact r1

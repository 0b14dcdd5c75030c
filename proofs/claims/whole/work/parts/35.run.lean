/-! both lay the same stays, step by step -/
def Pl (S M : St) (sh b : Int) (n : Nat) (T T' : St) (x : Int) : Prop :=
  mLc M sh b n T' x ∧ Inv T ∧ T 20 0 = (n : Int) ∧ (∀ c, c ≠ 20 → c ≠ 21 → c ≠ 22 → c ≠ 23 → c ≠ 24 → T c = cT0 S sh b c) ∧ T 23 0 = 0 ∧
  (∀ i : Nat, i < n → T 21 i = T' 41 i ∧ T 22 i = T' 42 i ∧ 0 ≤ T 21 i ∧ T 21 i < S 1 0 ∧ T 23 (i + 1) = T 23 i + tTm S sh (T 21 i) ∧ T 24 (T 21 i).toNat = (i : Int) + 1 ∧ mTt M sh b 43 x.toNat ≤ mTt M sh b 43 (S 6 (T 21 i).toNat).toNat ∧ mTt M sh b 43 x.toNat ≤ mTt M sh b 43 (S 7 (T 21 i).toNat).toNat) ∧
  (∀ q : Nat, q < 12 → T 24 q = 0 ∨ ∃ i : Nat, i < n ∧ T 24 q = (i : Int) + 1 ∧ T 21 i = (q : Int)) ∧
  (∀ j, 1 ≤ j → T 20 j = S 20 j) ∧ (∀ j, 7 ≤ j → T 21 j = S 21 j ∧ T 22 j = S 22 j) ∧ (∀ j, 8 ≤ j → T 23 j = S 23 j) ∧ (∀ j, 12 ≤ j → T 24 j = S 24 j) ∧ (∀ j, 8 ≤ j → T' 41 j = M 41 j ∧ T' 42 j = M 42 j)
theorem aSt_21 (T : St) (q f t : Int) (j : Nat) : aSt T q f t 21 j = if j = (T 20 0).toNat then q else T 21 j := by
  unfold aSt
  rw [s_up_cell (by decide), s_up_cell (by decide), s_up_cell (by decide), s_up_cell (by decide), s_up_same]
  rfl
theorem aSt_22 (T : St) (q f t : Int) (j : Nat) : aSt T q f t 22 j = if j = (T 20 0).toNat then f else T 22 j := by
  unfold aSt
  rw [s_up_cell (by decide), s_up_cell (by decide), s_up_cell (by decide), s_up_same, s_up_cell (by decide)]
  rfl
theorem aSt_23 (T : St) (q f t : Int) (j : Nat) : aSt T q f t 23 j = if j = (T 20 0 + 1).toNat then T 23 (T 20 0).toNat + t else T 23 j := by
  unfold aSt
  rw [s_up_cell (by decide), s_up_cell (by decide), s_up_same, s_up_cell (by decide), s_up_cell (by decide)]
  rfl
theorem aSt_24 (T : St) (q f t : Int) (j : Nat) : aSt T q f t 24 j = if j = q.toNat then T 20 0 + 1 else T 24 j := by
  unfold aSt
  rw [s_up_cell (by decide), s_up_same, s_up_cell (by decide), s_up_cell (by decide), s_up_cell (by decide)]
  rfl
theorem aSt_20j (T : St) (q f t : Int) {j : Nat} (h : j ≠ 0) : aSt T q f t 20 j = T 20 j := by
  unfold aSt
  rw [s_up_ne h, s_up_cell (by decide), s_up_cell (by decide), s_up_cell (by decide), s_up_cell (by decide)]
theorem mSy_41 (T : St) (sh x : Int) (j : Nat) : mSy T sh x 41 j = if j = (T 40 0).toNat then mNx T sh x else T 41 j := by
  unfold mSy
  rw [s_up_cell (by decide), s_up_cell (by decide), s_up_same]
  rfl
theorem mSy_42 (T : St) (sh x : Int) (j : Nat) : mSy T sh x 42 j = if j = (T 40 0).toNat then (if T 26 (mNx T sh x).toNat = x then 1 else 0) else T 42 j := by
  unfold mSy
  rw [s_up_cell (by decide), s_up_same, s_up_cell (by decide)]
  rfl
theorem pl_step {S M : St} (hI : Inv S) (hJ : Inv M) (hd : Dat S M) {sh b : Int} (hsh : 0 ≤ sh ∧ sh < 12) (hb : 0 ≤ b ∧ b ≤ 7) (hs : 1 ≤ S 15 sh.toNat) (hle : ∀ j : Nat, (j : Int) < S 1 0 → 1 ≤ S 8 j) {n : Nat} {T T' : St} {x : Int} (h : Pl S M sh b n T T' x) (hx : ¬ x = b) :
    n < 7 ∧ ¬ nxP T sh x = -1 ∧ Pl S M sh b (n + 1) (aSt T (nxP T sh x) (if T 6 (nxP T sh x).toNat = x then 1 else 0) (tTm T sh (nxP T sh x))) (mSy T' sh x) (mOe T' (mNx T' sh x) x) ∧ oEnd (aSt T (nxP T sh x) (if T 6 (nxP T sh x).toNat = x then 1 else 0) (tTm T sh (nxP T sh x))) (nxP T sh x) x = mOe T' (mNx T' sh x) x := by
  obtain ⟨hm, hT, h20, hO, h230, hrow, hmk, k20, k21, k23, k24, k41⟩ := h
  obtain ⟨d1, d6, d7, d8, d9, d14, d15⟩ := id hd
  have hs' : 1 ≤ M 35 sh.toNat := by rw [← d15]; exact hs
  have hle' : ∀ j : Nat, (j : Int) < M 25 1 → 1 ≤ M 28 j := by rw [← d1, ← d8]; exact hle
  have hx7 := hm.1
  have hO' := hm.2.2.1
  have hF := hm.2.2.2.1
  obtain ⟨s1, s2, s3, s4, s5, s6, s7⟩ := mL_step hJ hsh hb hs' hle' hm hx
  obtain ⟨g1, g2, g3, g4, g5, g6, g7, g8⟩ := mL_next hJ hsh hb hs' hle' hO' hx7 hF hx
  rw [mL0_43] at g8 hF
  have c6 : T 6 = M 26 := by rw [hO 6 (by decide) (by decide) (by decide) (by decide) (by decide), cT0_ne _ _ _ (by decide) (by decide) (by decide) (by decide) (by decide), d6]
  have c7 : T 7 = M 27 := by rw [hO 7 (by decide) (by decide) (by decide) (by decide) (by decide), cT0_ne _ _ _ (by decide) (by decide) (by decide) (by decide) (by decide), d7]
  have c8 : T 8 = S 8 := by rw [hO 8 (by decide) (by decide) (by decide) (by decide) (by decide), cT0_ne _ _ _ (by decide) (by decide) (by decide) (by decide) (by decide)]
  have c9 : T 9 = M 29 := by rw [hO 9 (by decide) (by decide) (by decide) (by decide) (by decide), cT0_ne _ _ _ (by decide) (by decide) (by decide) (by decide) (by decide), d9]
  have c14 : T 14 = M 34 := by rw [hO 14 (by decide) (by decide) (by decide) (by decide) (by decide), cT0_ne _ _ _ (by decide) (by decide) (by decide) (by decide) (by decide), d14]
  have c15 : T 15 = S 15 := by rw [hO 15 (by decide) (by decide) (by decide) (by decide) (by decide), cT0_ne _ _ _ (by decide) (by decide) (by decide) (by decide) (by decide)]
  have c1 : T 1 0 = M 25 1 := by rw [hO 1 (by decide) (by decide) (by decide) (by decide) (by decide), cT0_ne _ _ _ (by decide) (by decide) (by decide) (by decide) (by decide), d1]
  have m26 : T' 26 = M 26 := by rw [hO' 26 (by decide) (by decide) (by decide), mL0_ne _ _ _ (by decide) (by decide) (by decide)]
  have m27 : T' 27 = M 27 := by rw [hO' 27 (by decide) (by decide) (by decide), mL0_ne _ _ _ (by decide) (by decide) (by decide)]
  have m28 : T' 28 = M 28 := by rw [hO' 28 (by decide) (by decide) (by decide), mL0_ne _ _ _ (by decide) (by decide) (by decide)]
  have m29 : T' 29 = M 29 := by rw [hO' 29 (by decide) (by decide) (by decide), mL0_ne _ _ _ (by decide) (by decide) (by decide)]
  have m34 : T' 34 = M 34 := by rw [hO' 34 (by decide) (by decide) (by decide), mL0_ne _ _ _ (by decide) (by decide) (by decide)]
  have m35 : T' 35 = M 35 := by rw [hO' 35 (by decide) (by decide) (by decide), mL0_ne _ _ _ (by decide) (by decide) (by decide)]
  have m25 : T' 25 = M 25 := by rw [hO' 25 (by decide) (by decide) (by decide), mL0_ne _ _ _ (by decide) (by decide) (by decide)]
  have m43 : T' 43 = mTt M sh b 43 := by rw [hO' 43 (by decide) (by decide) (by decide), mL0_43]
  have htim := tim_eq hI hJ hd hb hs hle
  have h4 : ∀ v, v < 8 → T 4 v = T' 43 v := by
    intro v hv
    rw [hO 4 (by decide) (by decide) (by decide) (by decide) (by decide), htim v hv, m43]
  have htk : ∀ q : Int, tTm T sh q = mTk T' sh q := by
    intro q
    have h1 := iv_8 hI q.toNat
    rw [tTm_cg c8 c15, mTk_cg m28 m35]
    unfold tTm mTk
    rw [if_neg (show ¬ S 15 sh.toNat < 1 by omega), ceil_eq h1.1 hs, d8, d15]
  have hnn := iv_43 (mTt_I sh b hJ hs') (mOe T' (mNx T' sh x) x).toNat
  have hnx : nxP T sh x = mNx T' sh x := nx_eq (M := T') hm.2.1 (by rw [c1, m25]) (by rw [c6, m26]) (by rw [c7, m27]) (by rw [c9, m29]) (by rw [c14, m34]) htk hx7 h4 (by rw [m43]; omega) (by rw [m43]; exact hF)
  have hoe : ∀ U : St, U 6 = T 6 → U 7 = T 7 → oEnd U (mNx T' sh x) x = mOe T' (mNx T' sh x) x := by
    intro U u6 u7
    exact oe_eq (by rw [u6, c6, m26]) (by rw [u7, c7, m27]) _ _
  have hS1 : S 1 0 = M 25 1 := d1
  have i1 := iv_1 hI 0
  rw [hnx]
  have h40 := hm.2.2.2.2.1
  have hts := tTm_c hT (sh := sh) (by rw [c15]; exact hs) (mNx T' sh x)
  refine ⟨s7, by omega, ⟨s1, ?_, ?_, ?_, ?_, ?_, ?_, ?_, ?_, ?_, ?_, ?_⟩, ?_⟩
  · exact aSt_I hT ⟨g1, by omega⟩ (by split <;> omega) hts (by omega)
  · rw [aSt_20, h20]; omega
  · intro c h1 h2 h3 h4 h5
    rw [aSt_ne _ _ _ _ h1 h2 h3 h4 h5, hO c h1 h2 h3 h4 h5]
  · rw [aSt_23, if_neg (by omega), h230]
  · intro i hi
    by_cases e : i = n
    · subst e
      have f21 : aSt T (mNx T' sh x) (if T 6 (mNx T' sh x).toNat = x then 1 else 0) (tTm T sh (mNx T' sh x)) 21 i = mNx T' sh x := by rw [aSt_21, if_pos (by omega)]
      have f41 : mSy T' sh x 41 i = mNx T' sh x := by rw [mSy_41, if_pos (by omega)]
      have f22 : aSt T (mNx T' sh x) (if T 6 (mNx T' sh x).toNat = x then 1 else 0) (tTm T sh (mNx T' sh x)) 22 i = (if T 6 (mNx T' sh x).toNat = x then 1 else 0) := by rw [aSt_22]; exact if_pos (by omega)
      have f42 : mSy T' sh x 42 i = (if T' 26 (mNx T' sh x).toNat = x then 1 else 0) := by rw [mSy_42]; exact if_pos (by omega)
      have f23a : aSt T (mNx T' sh x) (if T 6 (mNx T' sh x).toNat = x then 1 else 0) (tTm T sh (mNx T' sh x)) 23 (i + 1) = T 23 i + tTm T sh (mNx T' sh x) := by rw [aSt_23, if_pos (by omega), h20, Int.toNat_natCast]
      have f23b : aSt T (mNx T' sh x) (if T 6 (mNx T' sh x).toNat = x then 1 else 0) (tTm T sh (mNx T' sh x)) 23 i = T 23 i := by rw [aSt_23, if_neg (by omega)]
      have f24 : aSt T (mNx T' sh x) (if T 6 (mNx T' sh x).toNat = x then 1 else 0) (tTm T sh (mNx T' sh x)) 24 (mNx T' sh x).toNat = (i : Int) + 1 := by rw [aSt_24, if_pos rfl, h20]
      rw [f21, f41, f22, f42, f23a, f23b, f24, c6, m26, tTm_cg c8 c15]
      refine ⟨rfl, rfl, g1, by omega, rfl, rfl, ?_, ?_⟩
      · rw [d6, ← m26]
        rcases g5 with e1 | ⟨e1, e2⟩
        · rw [e1]; omega
        · have : mOe T' (mNx T' sh x) x = T' 26 (mNx T' sh x).toNat := by unfold mOe; rw [if_neg e1, if_pos e2]
          rw [this]
          exact Int.le_refl _
      · rw [d7, ← m27]
        rcases g5 with e1 | ⟨e1, e2⟩
        · have : mOe T' (mNx T' sh x) x = T' 27 (mNx T' sh x).toNat := by unfold mOe; rw [if_pos e1]
          rw [this]
          exact Int.le_refl _
        · rw [e2]; omega
    · obtain ⟨r1, r2, r3, r4, r5, r6, r7, r8⟩ := hrow i (by omega)
      have hne : ¬ (T 21 i).toNat = (mNx T' sh x).toNat := by
        intro z
        rw [z, d6, ← m26] at r7
        rw [z, d7, ← m27] at r8
        rcases g5 with e1 | ⟨e1, e2⟩
        · have : mOe T' (mNx T' sh x) x = T' 27 (mNx T' sh x).toNat := by unfold mOe; rw [if_pos e1]
          rw [this] at g8
          omega
        · have : mOe T' (mNx T' sh x) x = T' 26 (mNx T' sh x).toNat := by unfold mOe; rw [if_neg e1, if_pos e2]
          rw [this] at g8
          omega
      rw [aSt_21, if_neg (by omega), mSy_41, if_neg (by omega), aSt_22, if_neg (by omega), mSy_42, if_neg (by omega), aSt_23, if_neg (by omega), aSt_23, if_neg (by omega), aSt_24, if_neg hne]
      exact ⟨r1, r2, r3, r4, r5, r6, by omega, by omega⟩
  · intro q hq
    rw [aSt_24]
    by_cases e : q = (mNx T' sh x).toNat
    · rw [if_pos e]
      refine Or.inr ⟨n, by omega, by rw [h20], ?_⟩
      rw [aSt_21, if_pos (by omega)]
      omega
    · rw [if_neg e]
      rcases hmk q hq with h1 | ⟨i, h1, h2, h3⟩
      · exact Or.inl h1
      · refine Or.inr ⟨i, by omega, h2, ?_⟩
        rw [aSt_21, if_neg (by omega)]
        exact h3
  · intro j hj
    rw [aSt_20j _ _ _ _ (by omega), k20 j hj]
  · intro j hj
    rw [aSt_21, if_neg (by omega), aSt_22, if_neg (by omega)]
    exact k21 j hj
  · intro j hj
    rw [aSt_23, if_neg (by omega), k23 j hj]
  · intro j hj
    rw [aSt_24, if_neg (by omega), k24 j hj]
  · intro j hj
    rw [mSy_41, if_neg (by omega), mSy_42, if_neg (by omega)]
    exact k41 j hj
  · exact hoe _ (aSt_ne _ _ _ _ (by decide) (by decide) (by decide) (by decide) (by decide)) (aSt_ne _ _ _ _ (by decide) (by decide) (by decide) (by decide) (by decide))
theorem pl_run {S M : St} (hI : Inv S) (hJ : Inv M) (hd : Dat S M) {sh b : Int} (hsh : 0 ≤ sh ∧ sh < 12) (hb : 0 ≤ b ∧ b ≤ 7) (hs : 1 ≤ S 15 sh.toNat) (hle : ∀ j : Nat, (j : Int) < S 1 0 → 1 ≤ S 8 j) (f : Nat) : ∀ {n : Nat} {T T' : St} {x : Int}, 7 - n ≤ f → Pl S M sh b n T T' x →
    ∃ N U U', prl sh b (7 - n) T x = (U, 1) ∧ mLl sh b (8 - n) T' x = U' ∧ Pl S M sh b N U U' b := by
  induction f with
  | zero =>
    intro n T T' x hf h
    by_cases hx : x = b
    · subst hx
      have hn : n = 7 := by
        have := h.1.2.2.2.2.2
        omega
      refine ⟨n, T, T', ?_, ?_, h⟩
      · rw [show 7 - n = 0 by omega]; unfold prl; rw [if_pos rfl]
      · rw [mLl_s _ _ _ _ _ (by omega), if_pos rfl]
    · have := (pl_step hI hJ hd hsh hb hs hle h hx).1
      omega
  | succ f ih =>
    intro n T T' x hf h
    by_cases hx : x = b
    · subst hx
      have hn : n ≤ 7 := by
        have := h.1.2.2.2.2.2
        omega
      refine ⟨n, T, T', ?_, ?_, h⟩
      · by_cases e : n = 7
        · rw [show 7 - n = 0 by omega]; unfold prl; rw [if_pos rfl]
        · rw [prl_s _ _ _ _ _ (by omega), if_pos rfl]
      · rw [mLl_s _ _ _ _ _ (by omega), if_pos rfl]
    · obtain ⟨h1, h2, h3, h4⟩ := pl_step hI hJ hd hsh hb hs hle h hx
      obtain ⟨N, U, U', a1, a2, a3⟩ := ih (n := n + 1) (by omega) h3
      refine ⟨N, U, U', ?_, ?_, a3⟩
      · rw [prl_s _ _ _ _ _ h1, if_neg hx, if_neg h2, h4]
        exact a1
      · rw [mLl_s _ _ _ _ _ (by omega), if_neg hx]
        exact a2
theorem sPk_24 (S : St) (sh : Int) (k j : Nat) : sPk S sh k 24 j = if j < k then 0 else S 24 j := by
  induction k with
  | zero => show sP0 S sh 24 j = _; unfold sP0; rw [s_up_cell (by decide), s_up_cell (by decide), s_up_cell (by decide), if_neg (by omega)]
  | succ k ih =>
    show s_up (sPk S sh k) 24 k 0 24 j = _
    rw [s_up_same]
    unfold va_up
    by_cases e : j = k
    · rw [if_pos e, if_pos (by omega)]
    · rw [if_neg e, ih]
      by_cases h : j < k
      · rw [if_pos h, if_pos (show j < k + 1 by omega)]
      · rw [if_neg h, if_neg (show ¬ j < k + 1 by omega)]
theorem sPk_20j (S : St) (sh : Int) (k : Nat) {j : Nat} (h : j ≠ 0) : sPk S sh k 20 j = S 20 j := by
  induction k with
  | zero => show sP0 S sh 20 j = _; unfold sP0; rw [s_up_ne h, s_up_cell (by decide), s_up_cell (by decide)]
  | succ k ih => show s_up (sPk S sh k) 24 k 0 20 j = _; rw [s_up_cell (by decide), ih]
theorem pl_0 {S M : St} (hI : Inv S) (hJ : Inv M) (hd : Dat S M) {sh a b : Int} (hsh : 0 ≤ sh ∧ sh < 12) (ha : 0 ≤ a ∧ a ≤ 7) (hb : 0 ≤ b ∧ b ≤ 7) (hs : 1 ≤ S 15 sh.toNat) (hle : ∀ j : Nat, (j : Int) < S 1 0 → 1 ≤ S 8 j) (h23 : S 23 0 = 0) (hF : mL0 M sh b 43 a.toNat < 1000000) : Pl S M sh b 0 (cT0 S sh b) (mL0 M sh b) a := by
  obtain ⟨d1, d6, d7, d8, d9, d14, d15⟩ := id hd
  have hs' : 1 ≤ M 35 sh.toNat := by rw [← d15]; exact hs
  have hle' : ∀ j : Nat, (j : Int) < M 25 1 → 1 ≤ M 28 j := by rw [← d1, ← d8]; exact hle
  refine ⟨mLc_0 hJ hsh hb hs' hle' ha hF, mtl_I (sPk_I hI (by omega) 12), mtl_20 S sh b, fun c _ _ _ _ _ => rfl, ?_, fun i hi => absurd hi (by omega), ?_, ?_, ?_, ?_, ?_, ?_⟩
  · rw [cT0_ne _ _ _ (by decide) (by decide) (by decide) (by decide) (by decide), h23]
  · intro q hq
    refine Or.inl ?_
    unfold cT0
    rw [mtl_ne _ _ _ (by decide), sPk_24, if_pos hq]
  · intro j hj
    unfold cT0
    rw [mtl_ne _ _ _ (by decide), sPk_20j _ _ _ (by omega)]
  · intro j hj
    rw [cT0_ne _ _ _ (show 21 ≠ 4 by decide) (by decide) (by decide) (by decide) (by decide), cT0_ne _ _ _ (show 22 ≠ 4 by decide) (by decide) (by decide) (by decide) (by decide)]
    exact ⟨rfl, rfl⟩
  · intro j hj
    rw [cT0_ne _ _ _ (by decide) (by decide) (by decide) (by decide) (by decide)]
  · intro j hj
    unfold cT0
    rw [mtl_ne _ _ _ (by decide), sPk_24, if_neg (by omega)]
  · intro j hj
    rw [mL0_ne _ _ _ (show 41 ≠ 37 by decide) (by decide) (by decide), mL0_ne _ _ _ (show 42 ≠ 37 by decide) (by decide) (by decide)]
    exact ⟨rfl, rfl⟩
/-- the whole plan: a route in both, or in none -/
theorem pl_all {S M : St} (hI : Inv S) (hJ : Inv M) (hd : Dat S M) {sh a b : Int} (hsh : 0 ≤ sh ∧ sh < 12) (ha : 0 ≤ a ∧ a ≤ 7) (hb : 0 ≤ b ∧ b ≤ 7) (hs : 1 ≤ S 15 sh.toNat) (hle : ∀ j : Nat, (j : Int) < S 1 0 → 1 ≤ S 8 j) (h23 : S 23 0 = 0) :
    ((pRt S sh a b).2 = 0 ∧ mLy M sh a b = (mL0 M sh b, false) ∧ (pRt S sh a b).1 20 = va_up (S 20) 0 0 ∧ (∀ c, c ≠ 4 → c ≠ 18 → c ≠ 19 → c ≠ 20 → c ≠ 24 → (pRt S sh a b).1 c = S c) ∧ (pRt S sh a b).1 18 = va_up (S 18) 0 sh ∧ (pRt S sh a b).1 19 = va_up (S 19) 0 0 ∧ (∀ j, 12 ≤ j → (pRt S sh a b).1 24 j = S 24 j)) ∨
    (∃ N U', (pRt S sh a b).2 = 1 ∧ mLy M sh a b = (U', true) ∧ Pl S M sh b N (pRt S sh a b).1 U' b) := by
  have e20 : ∀ T : St, (∀ j, j ≠ 0 → T 20 j = S 20 j) → T 20 0 = 0 → T 20 = va_up (S 20) 0 0 := by
    intro T h1 h2
    funext j
    unfold va_up
    by_cases e : j = 0
    · rw [if_pos e, e, h2]
    · rw [if_neg e, h1 j e]
  have e18 : sPk S sh 12 18 = va_up (S 18) 0 sh := by
    have : ∀ k, sPk S sh k 18 = va_up (S 18) 0 sh := by
      intro k
      induction k with
      | zero => show sP0 S sh 18 = _; unfold sP0; rw [s_up_cell (by decide), s_up_cell (by decide), s_up_same]
      | succ k ih => show s_up (sPk S sh k) 24 k 0 18 = _; rw [s_up_cell (by decide), ih]
    exact this 12
  have e19 : sPk S sh 12 19 = va_up (S 19) 0 0 := by
    have : ∀ k, sPk S sh k 19 = va_up (S 19) 0 0 := by
      intro k
      induction k with
      | zero => show sP0 S sh 19 = _; unfold sP0; rw [s_up_cell (by decide), s_up_same, s_up_cell (by decide)]
      | succ k ih => show s_up (sPk S sh k) 24 k 0 19 = _; rw [s_up_cell (by decide), ih]
    exact this 12
  by_cases hab : a = b
  · refine Or.inl ?_
    have hp : pRt S sh a b = (sPk S sh 12, 0) := by rw [pRt_u, if_pos hab]
    rw [hp, mLy_u, if_pos (Or.inl hab)]
    refine ⟨rfl, rfl, e20 _ (fun j hj => sPk_20j S sh 12 hj) (sPk_20 S sh 12), fun c _ h1 h2 h3 h4 => sPk_ne _ _ _ h1 h2 h3 h4, e18, e19, fun j hj => ?_⟩
    show sPk S sh 12 24 j = _
    rw [sPk_24, if_neg (by omega)]
  · by_cases hF : mL0 M sh b 43 a.toNat < 1000000
    · refine Or.inr ?_
      obtain ⟨N, U, U', a1, a2, a3⟩ := pl_run hI hJ hd hsh hb hs hle 7 (by omega) (pl_0 hI hJ hd hsh ha hb hs hle h23 hF)
      have hp : pRt S sh a b = (U, 1) := by rw [pRt_u, if_neg hab]; exact a1
      refine ⟨N, U', ?_, ?_, ?_⟩
      · rw [hp]
      · rw [mLy_u, if_neg (by omega), ← a2]
      · rw [hp]; exact a3
    · refine Or.inl ?_
      have h4 := tim_eq hI hJ hd hb hs hle a.toNat (by omega)
      rw [mL0_43] at hF
      have hnx : nxP (cT0 S sh b) sh a = -1 := by unfold nxP; rw [h4, if_pos (by omega)]
      have hp : pRt S sh a b = (cT0 S sh b, 0) := by
        rw [pRt_u, if_neg hab]
        show prl sh b (7 - 0) (cT0 S sh b) a = _
        rw [prl_s _ _ _ _ _ (by omega), if_neg hab, if_pos hnx]
      rw [hp, mLy_u, if_pos (Or.inr (by rw [mL0_43]; omega))]
      refine ⟨rfl, rfl, e20 _ (fun j hj => by show cT0 S sh b 20 j = _; unfold cT0; rw [mtl_ne _ _ _ (by decide), sPk_20j S sh 12 hj]) (mtl_20 S sh b), fun c h0 h1 h2 h3 h4 => cT0_ne _ _ _ h0 h1 h2 h3 h4, ?_, ?_, fun j hj => ?_⟩
      · show cT0 S sh b 18 = _; unfold cT0; rw [mtl_ne _ _ _ (by decide), e18]
      · show cT0 S sh b 19 = _; unfold cT0; rw [mtl_ne _ _ _ (by decide), e19]
      · show cT0 S sh b 24 j = _; unfold cT0; rw [mtl_ne _ _ _ (by decide), sPk_24, if_neg (by omega)]

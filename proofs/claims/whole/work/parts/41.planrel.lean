/-! behind a plan the relation stands, and the plan's row is alike -/
theorem sPk_18 (S : St) (sh : Int) (k : Nat) : sPk S sh k 18 = va_up (S 18) 0 sh := by
  induction k with
  | zero => show sP0 S sh 18 = _; unfold sP0; rw [s_up_cell (by decide), s_up_cell (by decide), s_up_same]
  | succ k ih => show s_up (sPk S sh k) 24 k 0 18 = _; rw [s_up_cell (by decide), ih]
theorem sPk_19 (S : St) (sh : Int) (k : Nat) : sPk S sh k 19 = va_up (S 19) 0 0 := by
  induction k with
  | zero => show sP0 S sh 19 = _; unfold sP0; rw [s_up_cell (by decide), s_up_same, s_up_cell (by decide)]
  | succ k ih => show s_up (sPk S sh k) 24 k 0 19 = _; rw [s_up_cell (by decide), ih]
theorem mL0_37f (M : St) (sh b : Int) : mL0 M sh b 37 = va_up (M 37) 0 sh := by
  funext j
  rw [mL0_37]
  rfl
/-- the reference's base: the class's data beside it -/
def Mb (S M : St) : Prop := Inv M ∧ (∀ c, 25 < c → c < 44 → M c = S c) ∧ (∀ j, j ≠ 0 → M 25 j = S 25 j)
theorem mb_dat {S M : St} (h : Rel S) (hM : Mb S M) : Dat S M := by
  obtain ⟨hI, hA, hB, hC, hL, hR⟩ := h
  have e := hM.2.1
  refine ⟨by rw [hM.2.2 1 (by decide)]; exact hA.1, ?_, ?_, ?_, ?_, ?_, ?_⟩
  · rw [e 26 (by decide) (by decide)]; exact hB.1
  · rw [e 27 (by decide) (by decide)]; exact hB.2.1
  · rw [e 28 (by decide) (by decide)]; exact hB.2.2.1
  · rw [e 29 (by decide) (by decide)]; exact hB.2.2.2.1
  · rw [e 34 (by decide) (by decide)]; exact hB.2.2.2.2.2.2.2.2.1
  · rw [e 35 (by decide) (by decide)]; exact hB.2.2.2.2.2.2.2.2.2.1
theorem Jn_inv {C M : St} (h1 : Inv C) (h2 : Inv M) : Inv (Jn C M) := by
  intro q j hq
  by_cases h : q < 25
  · rw [J_lo h]; exact h1 q j hq
  · rw [J_hi h]; exact h2 q j hq
theorem plan_gen {S M C1 M1 : St} (h : Rel S) (hM : Mb S M) {sh : Int} (hsh : 0 ≤ sh ∧ sh < S 2 0) (hC1 : Inv C1) (hM1 : Inv M1)
    (hc : ∀ c, c < 18 → c ≠ 4 → C1 c = S c) (h18 : C1 18 = va_up (S 18) 0 sh) (h19 : ∀ j, j ≠ 0 → C1 19 j = S 19 j) (h20 : ∀ j, j ≠ 0 → C1 20 j = S 20 j) (h21 : ∀ j, 7 ≤ j → C1 21 j = S 21 j ∧ C1 22 j = S 22 j) (h230 : C1 23 0 = 0) (h23 : ∀ j, 8 ≤ j → C1 23 j = S 23 j) (h24 : ∀ j, 12 ≤ j → C1 24 j = S 24 j)
    (hm : ∀ c, 25 ≤ c → c < 43 → c ≠ 37 → c ≠ 40 → c ≠ 41 → c ≠ 42 → M1 c = M c) (h37 : M1 37 = va_up (M 37) 0 sh) (h40 : ∀ j, j ≠ 0 → M1 40 j = M 40 j) (h0 : C1 20 0 = M1 40 0) (h41 : ∀ j, 8 ≤ j → M1 41 j = M 41 j ∧ M1 42 j = M 42 j) : Rel (Jn C1 M1) := by
  obtain ⟨hI, hA, hB, hC, hL, hR⟩ := h
  obtain ⟨hMI, e26, e25⟩ := hM
  have lo : ∀ {c : Nat}, (c < 18 ∧ c ≠ 4) → Jn C1 M1 c = S c := fun h => by rw [J_lo (by omega)]; exact hc _ h.1 h.2
  have hi : ∀ {c : Nat}, (25 < c ∧ c < 43 ∧ c ≠ 37 ∧ c ≠ 40 ∧ c ≠ 41 ∧ c ≠ 42) → Jn C1 M1 c = S c := fun h => by rw [J_hi (by omega), hm _ (by omega) h.2.1 h.2.2.1 h.2.2.2.1 h.2.2.2.2.1 h.2.2.2.2.2, e26 _ h.1 (by omega)]
  have h25 : ∀ j, j ≠ 0 → Jn C1 M1 25 j = S 25 j := fun j hj => by rw [J_hi (by decide), hm 25 (by decide) (by decide) (by decide) (by decide) (by decide) (by decide), e25 j hj]
  refine ⟨Jn_inv hC1 hM1, ?_, ?_, ?_, ?_, ?_⟩
  · unfold RA
    rw [lo (c := 1) (by decide), lo (c := 2) (by decide), lo (c := 3) (by decide), lo (c := 0) (by decide), h25 1 (by decide), h25 10 (by decide), h25 16 (by decide), h25 14 (by decide), h25 15 (by decide)]
    exact hA
  · unfold RB
    rw [lo (c := 6) (by decide), lo (c := 7) (by decide), lo (c := 8) (by decide), lo (c := 9) (by decide), lo (c := 10) (by decide), lo (c := 11) (by decide), lo (c := 12) (by decide), lo (c := 13) (by decide), lo (c := 14) (by decide), lo (c := 15) (by decide), lo (c := 16) (by decide), hi (c := 26) (by decide), hi (c := 27) (by decide), hi (c := 28) (by decide), hi (c := 29) (by decide), hi (c := 30) (by decide), hi (c := 31) (by decide), hi (c := 32) (by decide), hi (c := 33) (by decide), hi (c := 34) (by decide), hi (c := 35) (by decide), hi (c := 36) (by decide)]
    exact hB
  · unfold RC
    rw [lo (c := 17) (by decide), hi (c := 39) (by decide), hi (c := 38) (by decide), J_lo (show 18 < 25 by decide), J_lo (show 19 < 25 by decide), J_lo (show 20 < 25 by decide), J_hi (show ¬ 37 < 25 by decide), J_hi (show ¬ 40 < 25 by decide), h18, h37, e26 37 (by decide) (by decide), ← hC.2.1]
    refine ⟨hC.1, rfl, fun k hk => by rw [h19 k hk]; exact hC.2.2.1 k hk, ?_⟩
    funext j
    by_cases e : j = 0
    · rw [e, h0]
    · rw [h20 j e, h40 j e, e26 40 (by decide) (by decide), hC.2.2.2]
  · unfold RL
    rw [lo (c := 1) (by decide), lo (c := 2) (by decide), lo (c := 8) (by decide), lo (c := 15) (by decide), lo (c := 10) (by decide), J_lo (show 20 < 25 by decide), J_lo (show 18 < 25 by decide), J_lo (show 23 < 25 by decide), h18]
    refine ⟨hL.1, hL.2.1, hL.2.2.1, hL.2.2.2.1, fun k hk => ?_, fun k => ?_⟩
    · unfold va_up
      by_cases e : k = 0
      · rw [if_pos e]; exact hsh.2
      · rw [if_neg e]
        rw [h20 k e] at hk
        exact hL.2.2.2.2.1 k hk
    · by_cases e : k = 0
      · rw [e]; exact h230
      · rw [h23 (8 * k) (by omega)]; exact hL.2.2.2.2.2 k
  · intro k h1 h2
    rw [lo (c := 3) (by decide)] at h2
    obtain ⟨r1, r2⟩ := hR k h1 h2
    have e18 : Jn C1 M1 18 k = S 18 k := by rw [J_lo (by decide), h18]; unfold va_up; rw [if_neg (by omega)]
    refine ⟨?_, by rw [e18, lo (c := 2) (by decide)]; exact r2⟩
    exact r1.cg (by rw [lo (c := 1) (by decide)]; exact Int.le_refl _) e18 (by rw [J_lo (by decide)]; exact h20 k (by omega)) (fun j _ => by rw [lo (c := 8) (by decide)]) (by rw [lo (c := 15) (by decide)]) (fun i _ => by rw [J_lo (show 21 < 25 by decide), J_lo (show 22 < 25 by decide)]; exact h21 _ (by omega)) (fun i _ => by rw [J_lo (by decide)]; exact h23 _ (by omega)) (fun i _ => by rw [J_lo (by decide)]; exact h24 _ (by omega)) (fun i _ => by
      rw [J_hi (show ¬ 41 < 25 by decide), J_hi (show ¬ 42 < 25 by decide), (h41 (8 * k + i) (by omega)).1, (h41 (8 * k + i) (by omega)).2, e26 41 (by decide) (by decide), e26 42 (by decide) (by decide)]
      exact ⟨rfl, rfl⟩) hI
theorem plan_rel {S M : St} (h : Rel S) (hM : Mb S M) {sh a b : Int} (hsh : 0 ≤ sh ∧ sh < S 2 0) (ha : 0 ≤ a ∧ a ≤ 7) (hb : 0 ≤ b ∧ b ≤ 7) :
    Rel (Jn (pRt S sh a b).1 (mLy M sh a b).1) ∧ Inv (pRt S sh a b).1 ∧ Inv (mLy M sh a b).1 ∧ (pRt S sh a b).1 18 0 = sh ∧ 1 ≤ (pRt S sh a b).1 15 sh.toNat ∧
    (((pRt S sh a b).2 = 0 ∧ (mLy M sh a b).2 = false) ∨ ((pRt S sh a b).2 = 1 ∧ (mLy M sh a b).2 = true ∧ Rw (Jn (pRt S sh a b).1 (mLy M sh a b).1) 0 ∧ (pRt S sh a b).1 4 a.toNat = (mLy M sh a b).1 43 a.toNat ∧ (pRt S sh a b).1 21 0 = (mLy M sh a b).1 41 0 ∧ (pRt S sh a b).1 20 0 = (mLy M sh a b).1 40 0)) := by
  have i2 := iv_2 h.1 0
  have hd := mb_dat h hM
  have hs : 1 ≤ S 15 sh.toNat := h.2.2.2.2.1.2.1 sh.toNat (by omega)
  have hs' : 1 ≤ M 35 sh.toNat := by rw [← hd.2.2.2.2.2.2]; exact hs
  have hle := h.2.2.2.2.1.1
  have hle' : ∀ j : Nat, (j : Int) < M 25 1 → 1 ≤ M 28 j := by rw [← hd.1, ← hd.2.2.2.1]; exact hle
  have hsh' : 0 ≤ sh ∧ sh < 12 := by omega
  have h23 : S 23 0 = 0 := h.2.2.2.2.1.2.2.2.2.2 0
  have hCI := pRt_I b h.1 hsh' ha hs
  have hMI := mLy_I a hM.1 hsh' ha hb hs' hle'
  have h15 : (pRt S sh a b).1 15 = S 15 := pRt_ne _ _ _ _ (by decide) (by decide) (by decide) (by decide) (by decide) (by decide) (by decide) (by decide)
  have mne : ∀ c, 25 ≤ c → c < 43 → c ≠ 37 → c ≠ 40 → c ≠ 41 → c ≠ 42 → (mLy M sh a b).1 c = M c := fun c _ h2 h3 h4 h5 h6 => by rw [mLy_ne _ _ _ _ h4 h5 h6, mL0_ne _ _ _ h3 h4 (by omega)]
  have m37 : (mLy M sh a b).1 37 = va_up (M 37) 0 sh := by rw [mLy_ne _ _ _ _ (by decide) (by decide) (by decide), mL0_37f]
  have m40 : ∀ j, j ≠ 0 → (mLy M sh a b).1 40 j = M 40 j := fun j hj => mLy_40 M sh a b hj
  rcases pl_all h.1 hM.1 hd hsh' ha hb hs hle h23 with ⟨q1, q2, q3, q4, q5, q6, q7⟩ | ⟨N, U', q1, q2, q3⟩
  · have hrel : Rel (Jn (pRt S sh a b).1 (mLy M sh a b).1) := by
      refine plan_gen h hM hsh hCI hMI (fun c h1 h2 => q4 c h2 (by omega) (by omega) (by omega) (by omega)) q5 (fun j hj => by rw [q6]; unfold va_up; rw [if_neg hj]) (fun j hj => by rw [q3]; unfold va_up; rw [if_neg hj]) (fun j _ => by rw [q4 21 (by decide) (by decide) (by decide) (by decide) (by decide), q4 22 (by decide) (by decide) (by decide) (by decide) (by decide)]; exact ⟨rfl, rfl⟩) (by rw [q4 23 (by decide) (by decide) (by decide) (by decide) (by decide), h23]) (fun j _ => by rw [q4 23 (by decide) (by decide) (by decide) (by decide) (by decide)]) q7 mne m37 m40 ?_ ?_
      · rw [q2, q3]
        show (0 : Int) = mL0 M sh b 40 0
        unfold mL0
        rw [s_up_self]
      · intro j _
        rw [q2]
        show mL0 M sh b 41 j = _ ∧ mL0 M sh b 42 j = _
        rw [mL0_ne _ _ _ (show 41 ≠ 37 by decide) (by decide) (by decide), mL0_ne _ _ _ (show 42 ≠ 37 by decide) (by decide) (by decide)]
        exact ⟨rfl, rfl⟩
    refine ⟨hrel, hCI, hMI, by rw [q5]; rfl, by rw [h15]; exact hs, Or.inl ⟨q1, by rw [q2]⟩⟩
  · obtain ⟨p1, p2, p3, p4, p5, p6, p7, p8, p9, p10, p11, p12⟩ := id q3
    have hU : (mLy M sh a b).1 = U' := by rw [q2]
    have c18 : (pRt S sh a b).1 18 = va_up (S 18) 0 sh := by rw [p4 18 (by decide) (by decide) (by decide) (by decide) (by decide)]; unfold cT0; rw [mtl_ne _ _ _ (by decide), sPk_18]
    have c19 : (pRt S sh a b).1 19 = va_up (S 19) 0 0 := by rw [p4 19 (by decide) (by decide) (by decide) (by decide) (by decide)]; unfold cT0; rw [mtl_ne _ _ _ (by decide), sPk_19]
    have h00 : (pRt S sh a b).1 20 0 = (mLy M sh a b).1 40 0 := by rw [p3, hU, p1.2.2.2.2.1]
    have clo : ∀ c, c < 18 → c ≠ 4 → (pRt S sh a b).1 c = S c := fun c h1 h2 => by rw [p4 c (by omega) (by omega) (by omega) (by omega) (by omega), cT0_ne _ _ _ h2 (by omega) (by omega) (by omega) (by omega)]
    have hrel : Rel (Jn (pRt S sh a b).1 (mLy M sh a b).1) := by
      refine plan_gen h hM hsh hCI hMI clo c18 (fun j hj => by rw [c19]; unfold va_up; rw [if_neg hj]) (fun j hj => p8 j (by omega)) p9 p5 p10 p11 mne m37 m40 h00 (fun j hj => by rw [hU]; exact p12 j hj)
    have i20 := iv_20 hCI 0
    have hrow0 : Rw (Jn (pRt S sh a b).1 (mLy M sh a b).1) 0 := by
      have ja : ∀ {c : Nat}, c < 25 → Jn (pRt S sh a b).1 (mLy M sh a b).1 c = (pRt S sh a b).1 c := fun h => J_lo h
      have jb : ∀ {c : Nat}, ¬ c < 25 → Jn (pRt S sh a b).1 (mLy M sh a b).1 c = (mLy M sh a b).1 c := fun h => J_hi h
      refine ⟨by rw [ja (by decide)]; exact p5, fun i hi => ?_, fun q hq => ?_⟩
      · rw [ja (by decide), p3] at hi
        obtain ⟨r1, r2, r3, r4, r5, r6, r7, r8⟩ := p6 i (by omega)
        rw [ja (show 21 < 25 by decide), ja (show 22 < 25 by decide), ja (show 1 < 25 by decide), ja (show 23 < 25 by decide), ja (show 18 < 25 by decide), ja (show 24 < 25 by decide), jb (show ¬ 41 < 25 by decide), jb (show ¬ 42 < 25 by decide), show 7 * 0 + i = i by omega, show 12 * 0 + ((pRt S sh a b).1 21 i).toNat = ((pRt S sh a b).1 21 i).toNat by omega, hU]
        refine ⟨r1, r2, by rw [clo 1 (by decide) (by decide)]; exact r4, ?_, r6⟩
        have et : tTm (Jn (pRt S sh a b).1 U') ((pRt S sh a b).1 18 0) ((pRt S sh a b).1 21 i) = tTm S sh ((pRt S sh a b).1 21 i) := by
          rw [c18]
          show tTm _ sh _ = _
          exact tTm_cg (by rw [J_lo (by decide), clo 8 (by decide) (by decide)]) (by rw [J_lo (by decide), clo 15 (by decide) (by decide)]) _ _
        rw [et]
        exact r5
      · rw [ja (show 24 < 25 by decide), ja (show 20 < 25 by decide), ja (show 21 < 25 by decide), show 12 * 0 + q = q by omega, p3]
        rcases p7 q hq with h0 | ⟨i, a1, a2, a3⟩
        · exact Or.inl h0
        · exact Or.inr ⟨i, by omega, a2, by rw [show 7 * 0 + i = i by omega]; exact a3⟩
    refine ⟨hrel, hCI, hMI, by rw [c18]; rfl, by rw [h15]; exact hs, Or.inr ⟨q1, by rw [q2], hrow0, ?_, ?_, h00⟩⟩
    · rw [p4 4 (by decide) (by decide) (by decide) (by decide) (by decide), tim_eq h.1 hM.1 hd hb hs hle a.toNat (by omega), mLy_ne _ _ _ _ (by decide) (by decide) (by decide), mL0_43]
    · rw [hU]
      by_cases hN : 0 < N
      · exact (p6 0 hN).1
      · exfalso
        have hab : ¬ a = b := by
          intro z
          rw [pRt_u, if_pos z] at q1
          cases q1
        have hF : mL0 M sh b 43 a.toNat < 1000000 := by
          by_cases hF : mL0 M sh b 43 a.toNat < 1000000
          · exact hF
          · have := mLy_u M sh a b
            rw [if_pos (Or.inr (by omega)), q2] at this
            have := congrArg Prod.snd this
            cases this
        have e2 : mLl sh b 8 (mL0 M sh b) a = U' := by
          have := mLy_u M sh a b
          rw [if_neg (by omega), q2] at this
          exact (congrArg Prod.fst this).symm
        have e3 := mLl_s sh b 0 (mL0 M sh b) a (by decide)
        rw [if_neg hab] at e3
        have grow : ∀ (f : Nat) (T : St) (x : Int), 0 ≤ T 40 0 → T 40 0 ≤ mLl sh b f T x 40 0 := by
          intro f
          induction f with
          | zero => intro T x _; exact Int.le_refl _
          | succ f ih =>
            intro T x hx
            unfold mLl
            split
            · exact Int.le_refl _
            · have e4 : mSy T sh x 40 0 = T 40 0 + 1 := by unfold mSy; rw [s_up_self]
              have := ih (mSy T sh x) (mOe T (mNx T sh x) x) (by omega)
              omega
        have e5 : mSy (mL0 M sh b) sh a 40 0 = mL0 M sh b 40 0 + 1 := by unfold mSy; rw [s_up_self]
        have e6 : mL0 M sh b 40 0 = 0 := by unfold mL0; rw [s_up_self]
        have e7 := grow (8 - (0 + 1)) (mSy (mL0 M sh b) sh a) (mOe (mL0 M sh b) (mNx (mL0 M sh b) sh a) a) (by omega)
        rw [← e3, show 8 - 0 = 8 by omega, e2, p1.2.2.2.2.1] at e7
        omega

/-! the earliest: what the class leaves out is not free -/
/-- what the search knows of the plan's row and the slots' -/
def Ek (C : St) : Prop := Inv C ∧ (∀ i : Nat, (i : Int) < C 20 0 → 1 ≤ nL C (i : Int) - nE C (i : Int) ∧ nL C (i : Int) - nE C (i : Int) ≤ 100) ∧ (∀ k j : Nat, 1 ≤ k → (k : Int) ≤ C 3 0 → (j : Int) < C 20 k → enA C (k : Int) (j : Int) < lvA C (k : Int) (j : Int)) ∧ (∀ k : Nat, 1 ≤ k → (k : Int) ≤ C 3 0 → ∀ q : Int, 0 ≤ q → q < 12 → ¬ stO C (k : Int) q = -1 → ∃ j : Nat, (j : Int) < C 20 k ∧ stO C (k : Int) q = (j : Int))
theorem pWp_b0 (C : St) (v i : Int) : pWp (s_up C 19 0 v) i = if agW C 0 i = true ∨ bWd C 0 i = true then 1000000 else max (clF C (pOf C 0 i) (v + nE C i) (v + nL C i) (C 11 (pOf C 0 i).toNat).toNat) (if bNt (s_up C 19 0 v) 0 i = true then (300 - (v + nE C i)) % 1440 else 0) := by
  unfold pWp
  rw [b_agW, b_bWd, b_pOf, en_b, lv_b, b_clF, s_up_cell (show 11 ≠ 19 by decide)]
  rfl
theorem pWf_b0 (C : St) (v : Int) {k i : Int} (hk : 1 ≤ k) : pWf (s_up C 19 0 v) k i = if cfw (s_up C 19 0 v) k 0 i = 0 ∨ stO C k (pOf C 0 i) = -1 then 0 else if ¬ cfw (s_up C 19 0 v) k 0 i = 7 then lvA C k (stO C k (pOf C 0 i)) - (v + nE C i) else max (enA C k (stO C k (pOf C 0 i)) - (v + nE C i)) (lvA C k (stO C k (pOf C 0 i)) - (v + nL C i)) + 1 := by
  unfold pWf
  rw [b_pOf, b_stO, en_b, lv_b, en_k C v hk, lv_k C v hk]
  rfl
theorem cKd_v (C : St) (k i : Int) : cKd C k i = 0 ∨ cKd C k i = 5 ∨ cKd C k i = 6 ∨ cKd C k i = 7 := by
  unfold cKd
  repeat (first | omega | split)
theorem skip_bar {C : St} (hE : Ek C) {v u : Int} (h1 : v ≤ u) (h2 : u < v + pWt (s_up C 19 0 v) (C 20 0).toNat) : ¬ fBr (s_up C 19 0 u) 0 0 (C 20 0).toNat = 0 := by
  obtain ⟨hI, hd0, hdk, hmk⟩ := hE
  have i20 := iv_20 hI 0
  have i3 := iv_3 hI 0
  obtain ⟨i, hi, hw⟩ := pWt_at (S := s_up C 19 0 v) (C 20 0).toNat (by omega)
  have hdi := hd0 i (by omega)
  have hp := pOf_b hI 0 (i : Int)
  have h3u : ∀ x : Int, s_up C 19 0 x 3 0 = C 3 0 := fun x => by rw [s_up_cell (by decide)]
  refine fBr_pos 0 _ (i := i) (Nat.zero_le _) (by omega) ?_
  rw [brr_iff, h3u]
  rcases hw with hw | hw
  · refine Or.inl ?_
    rw [bPc_b0]
    rw [pWp_b0] at hw
    by_cases c1 : agW C 0 (i : Int) = true ∨ bWd C 0 (i : Int) = true
    · rcases c1 with c | c
      · exact Or.inl c
      · exact Or.inr (Or.inr (Or.inl c))
    · rw [if_neg c1] at hw
      by_cases c2 : (if bNt (s_up C 19 0 v) 0 (i : Int) = true then (300 - (v + nE C (i : Int))) % 1440 else 0) < clF C (pOf C 0 (i : Int)) (v + nE C (i : Int)) (v + nL C (i : Int)) (C 11 (pOf C 0 (i : Int)).toNat).toNat
      · have hcl : clF C (pOf C 0 (i : Int)) (v + nE C (i : Int)) (v + nL C (i : Int)) (C 11 (pOf C 0 (i : Int)).toNat).toNat = pWt (s_up C 19 0 v) (C 20 0).toNat := by omega
        obtain ⟨j, g1, g2, g3, g4⟩ := clF_at (S := C) (C 11 (pOf C 0 (i : Int)).toNat).toNat (by omega : 0 < clF C (pOf C 0 (i : Int)) (v + nE C (i : Int)) (v + nL C (i : Int)) (C 11 (pOf C 0 (i : Int)).toNat).toNat)
        exact Or.inr (Or.inr (Or.inr ((clF_iff C _).mpr ⟨j, g1, by omega, by omega⟩)))
      · by_cases c3 : bNt (s_up C 19 0 v) 0 (i : Int) = true
        · rw [if_pos c3] at hw c2
          refine Or.inr (Or.inl ?_)
          have c4 := (bNt_b C v (i : Int)).mp c3
          refine (bNt_b C u (i : Int)).mpr ⟨c4.1, ?_⟩
          have c5 := c4.2
          omega
        · rw [if_neg c3] at hw c2
          omega
  · refine Or.inr ?_
    rw [h3u] at hw
    obtain ⟨k, k1, k2, k3, k4⟩ := pWs_at (S := s_up C 19 0 v) (C 3 0).toNat (by omega : 0 < pWs (s_up C 19 0 v) (i : Int) (C 3 0).toNat)
    rw [bSl_iff]
    refine ⟨k, k1, k2, by omega, by rw [s_up_cell (by decide)] at k3 ⊢; exact k3, ?_⟩
    rw [pWf_b0 C v (by omega), cfw_b0 C v (by omega)] at k4
    rw [cfw_b0 C u (by omega)]
    by_cases s1 : stO C (k : Int) (pOf C 0 (i : Int)) = -1
    · rw [if_pos (Or.inr s1)] at k4
      omega
    · obtain ⟨j, j1, j2⟩ := hmk k k1 (by omega) (pOf C 0 (i : Int)) hp.1 (by omega) s1
      have hdj := hdk k j k1 (by omega) j1
      rw [← j2] at hdj
      have hK := cKd_v C (k : Int) (i : Int)
      rw [if_neg s1] at k4 ⊢
      generalize enA C (k : Int) (stO C (k : Int) (pOf C 0 (i : Int))) = EK at *
      generalize lvA C (k : Int) (stO C (k : Int) (pOf C 0 (i : Int))) = LK at *
      generalize cKd C (k : Int) (i : Int) = K at *
      by_cases s2 : ¬ (v + nE C (i : Int) < LK ∧ EK < v + nL C (i : Int))
      · rw [if_pos s2, if_pos (Or.inl rfl)] at k4
        omega
      · rw [if_neg s2] at k4
        by_cases s3 : K = 7 ∧ ((v + nE C (i : Int) < EK ∧ v + nL C (i : Int) < LK) ∨ (EK < v + nE C (i : Int) ∧ LK < v + nL C (i : Int)))
        · rw [if_pos s3, if_pos (Or.inl rfl)] at k4
          omega
        · rw [if_neg s3] at k4
          by_cases s4 : K = 0
          · rw [if_pos (Or.inl s4)] at k4
            omega
          · rw [if_neg (by omega)] at k4
            by_cases s5 : K = 7
            · rw [if_neg (by omega)] at k4
              rw [if_neg (by omega), if_neg (by omega)]
              exact s4
            · rw [if_pos s5] at k4
              rw [if_neg (by omega), if_neg (by omega)]
              exact s4
theorem wait_pos {C : St} (hE : Ek C) {v : Int} (h : ¬ fBr (s_up C 19 0 v) 0 0 (C 20 0).toNat = 0) : 0 < pWt (s_up C 19 0 v) (C 20 0).toNat := by
  obtain ⟨hI, hd0, hdk, hmk⟩ := hE
  have i20 := iv_20 hI 0
  have i3 := iv_3 hI 0
  obtain ⟨i, -, hi, hb⟩ := fBr_ex 0 _ h
  have hdi := hd0 i (by omega)
  have hp := pOf_b hI 0 (i : Int)
  obtain ⟨w1, w2⟩ := pWt_ge (S := s_up C 19 0 v) (C 20 0).toNat (i := i) (by omega)
  have h3u : ∀ x : Int, s_up C 19 0 x 3 0 = C 3 0 := fun x => by rw [s_up_cell (by decide)]
  rw [brr_iff, h3u] at hb
  rcases hb with hb | hb
  · have hpp : 0 < pWp (s_up C 19 0 v) (i : Int) := by
      rw [bPc_b0] at hb
      rw [pWp_b0]
      have hcl0 : 0 ≤ clF C (pOf C 0 (i : Int)) (v + nE C (i : Int)) (v + nL C (i : Int)) (C 11 (pOf C 0 (i : Int)).toNat).toNat := by
        generalize (C 11 (pOf C 0 (i : Int)).toNat).toNat = n
        induction n with
        | zero => simp [clF]
        | succ n ih => rw [clF_s]; split <;> omega
      rcases hb with z | z | z | z
      · rw [if_pos (Or.inl z)]; decide
      · split
        · decide
        · have c5 := ((bNt_b C v (i : Int)).mp z).2
          try rw [if_pos z]
          omega
      · rw [if_pos (Or.inr z)]; decide
      · split
        · decide
        · omega
    omega
  · rw [h3u] at w2
    rw [bSl_iff] at hb
    obtain ⟨k, k1, k2, k3, k4, k5⟩ := hb
    have hge := pWs_ge (S := s_up C 19 0 v) (i := (i : Int)) (C 3 0).toNat k1 k2 k4
    have hpf : 0 < pWf (s_up C 19 0 v) (k : Int) (i : Int) := by
      rw [pWf_b0 C v (by omega)]
      have k6 := k5
      rw [cfw_b0 C v (by omega)] at k5
      by_cases s1 : stO C (k : Int) (pOf C 0 (i : Int)) = -1
      · rw [if_pos s1] at k5
        exact absurd rfl k5
      · rw [if_neg s1] at k5
        by_cases s2 : ¬ (v + nE C (i : Int) < lvA C (k : Int) (stO C (k : Int) (pOf C 0 (i : Int))) ∧ enA C (k : Int) (stO C (k : Int) (pOf C 0 (i : Int))) < v + nL C (i : Int))
        · rw [if_pos s2] at k5
          exact absurd rfl k5
        · rw [if_neg s2] at k5
          have e1 := cfw_b0 C v (k := (k : Int)) (i := (i : Int)) (by omega)
          rw [if_neg s1, if_neg s2] at e1
          rw [if_neg (by omega)]
          by_cases s3 : cKd C (k : Int) (i : Int) = 7 ∧ ((v + nE C (i : Int) < enA C (k : Int) (stO C (k : Int) (pOf C 0 (i : Int))) ∧ v + nL C (i : Int) < lvA C (k : Int) (stO C (k : Int) (pOf C 0 (i : Int)))) ∨ (enA C (k : Int) (stO C (k : Int) (pOf C 0 (i : Int))) < v + nE C (i : Int) ∧ lvA C (k : Int) (stO C (k : Int) (pOf C 0 (i : Int))) < v + nL C (i : Int)))
          · rw [if_pos s3] at k5
            exact absurd rfl k5
          · rw [if_neg s3] at e1
            split
            · omega
            · omega
    omega
/-- the least free beginning from v on, or none -/
def Lst (F : Int → Prop) (last v r : Int) : Prop := (r = -1 ∧ ∀ u, v ≤ u → u ≤ last → ¬ F u) ∨ (v ≤ r ∧ r ≤ last ∧ F r ∧ ∀ u, v ≤ u → u < r → ¬ F u)
theorem Lst.uni {F : Int → Prop} {last v r1 r2 : Int} (hv : 0 ≤ v) (h1 : Lst F last v r1) (h2 : Lst F last v r2) : r1 = r2 := by
  rcases h1 with ⟨a1, a2⟩ | ⟨a1, a2, a3, a4⟩
  · rcases h2 with ⟨b1, b2⟩ | ⟨b1, b2, b3, b4⟩
    · omega
    · exact absurd b3 (a2 r2 b1 b2)
  · rcases h2 with ⟨b1, b2⟩ | ⟨b1, b2, b3, b4⟩
    · exact absurd a3 (b2 r1 a1 a2)
    · rcases Int.lt_trichotomy r1 r2 with h | h | h
      · exact absurd a3 (b4 r1 a1 h)
      · exact h
      · exact absurd b3 (a4 r2 b1 h)
theorem s_up_up (S : St) (q i : Nat) (x y : Int) : s_up (s_up S q i x) q i y = s_up S q i y := by
  funext c j
  rw [s_up_at, s_up_at, s_up_at]
  split
  · rfl
  · rfl
theorem eaL_spec {C : St} (hE : Ek C) {last : Int} (f : Nat) : ∀ (T : St) (v : Int), 0 ≤ v → (∀ x, s_up T 19 0 x = s_up C 19 0 x) → last - v < (f : Int) → Lst (fun u => fBr (s_up C 19 0 u) 0 0 (C 20 0).toNat = 0) last v (eaL last f T v).2 ∧ (∃ x, (eaL last f T v).1 = T ∨ ((eaL last f T v).1 = s_up C 19 0 x ∧ 0 ≤ x ∧ x ≤ last)) := by
  induction f with
  | zero =>
    intro T v h0 hT hl
    refine ⟨Or.inl ⟨rfl, fun u h1 h2 => by omega⟩, 0, Or.inl rfl⟩
  | succ f ih =>
    intro T v h0 hT hl
    rw [eaL_s _ _ _ _ (by omega)]
    by_cases c1 : v ≤ last
    · rw [if_pos c1, hT v]
      have e20 : s_up C 19 0 v 20 0 = C 20 0 := by rw [s_up_cell (by decide)]
      rw [e20]
      by_cases c2 : pWt (s_up C 19 0 v) (C 20 0).toNat ≤ 0
      · rw [if_pos c2]
        refine ⟨Or.inr ⟨Int.le_refl _, c1, ?_, fun u h1 h2 => by simp only [] at h2; omega⟩, v, Or.inr ⟨rfl, h0, c1⟩⟩
        apply Classical.byContradiction
        intro z
        have hz : 0 < pWt (s_up C 19 0 v) (C 20 0).toNat := wait_pos hE z
        omega
      · rw [if_neg c2]
        obtain ⟨g1, x, g2⟩ := ih (s_up C 19 0 v) (v + pWt (s_up C 19 0 v) (C 20 0).toNat) (by omega) (fun x => s_up_up C 19 0 v x) (by omega)
        refine ⟨?_, ?_⟩
        · rcases g1 with ⟨a1, a2⟩ | ⟨a1, a2, a3, a4⟩
          · refine Or.inl ⟨a1, fun u h1 h2 => ?_⟩
            by_cases hu : u < v + pWt (s_up C 19 0 v) (C 20 0).toNat
            · exact skip_bar hE h1 hu
            · exact a2 u (by omega) h2
          · refine Or.inr ⟨?_, a2, a3, fun u h1 h2 => ?_⟩
            · have : f + 1 - 1 = f := by omega
              rw [this] at *
              omega
            · by_cases hu : u < v + pWt (s_up C 19 0 v) (C 20 0).toNat
              · exact skip_bar hE h1 hu
              · exact a4 u (by omega) h2
        · rcases g2 with g2 | g2
          · exact ⟨v, Or.inr ⟨g2, h0, c1⟩⟩
          · exact ⟨x, Or.inr g2⟩
    · rw [if_neg c1]
      exact ⟨Or.inl ⟨rfl, fun u h1 h2 => by omega⟩, 0, Or.inl rfl⟩
theorem mEl_spec {M : St} {F : Int → Prop} {t : Int} (hF : ∀ u, 0 ≤ u → u ≤ 100000 → (mAg (s_up M 38 0 u) 0 0 0 (s_up M 38 0 u 40 (0 : Int).toNat).toNat = 0 ↔ F u)) (f : Nat) : ∀ (T : St) (v : Int), 0 ≤ v → (∀ x, s_up T 38 0 x = s_up M 38 0 x) → t + 2880 - v < (f : Int) → Lst F (min (t + 2880) 100000) v (mEl t f T v).2 ∧ (∃ x, (mEl t f T v).1 = T ∨ ((mEl t f T v).1 = s_up M 38 0 x ∧ 0 ≤ x ∧ x ≤ 100000)) := by
  induction f with
  | zero =>
    intro T v h0 hT hl
    refine ⟨Or.inl ⟨rfl, fun u h1 h2 => by omega⟩, 0, Or.inl rfl⟩
  | succ f ih =>
    intro T v h0 hT hl
    rw [mEl_s _ _ _ _ (by omega)]
    by_cases c1 : v ≤ t + 2880 ∧ v ≤ 100000
    · rw [if_pos c1, hT v]
      by_cases c2 : mAg (s_up M 38 0 v) 0 0 0 (s_up M 38 0 v 40 (0 : Int).toNat).toNat = 0
      · rw [if_pos c2]
        exact ⟨Or.inr ⟨Int.le_refl _, by simp only []; omega, (hF v h0 c1.2).mp c2, fun u h1 h2 => by simp only [] at h2; omega⟩, v, Or.inr ⟨rfl, h0, c1.2⟩⟩
      · rw [if_neg c2]
        obtain ⟨g1, x, g2⟩ := ih (s_up M 38 0 v) (v + 1) (by omega) (fun x => s_up_up M 38 0 v x) (by omega)
        have hnv : ¬ F v := fun z => c2 ((hF v h0 c1.2).mpr z)
        refine ⟨?_, ?_⟩
        · rcases g1 with ⟨a1, a2⟩ | ⟨a1, a2, a3, a4⟩
          · refine Or.inl ⟨a1, fun u h1 h2 => ?_⟩
            by_cases hu : u = v
            · rw [hu]; exact hnv
            · exact a2 u (by omega) h2
          · refine Or.inr ⟨?_, a2, a3, fun u h1 h2 => ?_⟩
            · have : f + 1 - 1 = f := by omega
              rw [this] at *
              omega
            · by_cases hu : u = v
              · rw [hu]; exact hnv
              · exact a4 u (by omega) h2
        · rcases g2 with g2 | g2
          · exact ⟨v, Or.inr ⟨g2, h0, c1.2⟩⟩
          · exact ⟨x, Or.inr g2⟩
    · rw [if_neg c1]
      exact ⟨Or.inl ⟨rfl, fun u h1 h2 => by omega⟩, 0, Or.inl rfl⟩
theorem beg_rel2 {C M : St} (h : Rel (Jn C M)) {x y : Int} (hx : 0 ≤ x ∧ x ≤ 100000) (hy : 0 ≤ y ∧ y ≤ 100000) : Rel (Jn (s_up C 19 0 x) (s_up M 38 0 y)) := by
  have hz := beg_rel h hx
  obtain ⟨hI0, hA, hB, hC, hL, hR⟩ := hz
  have e : ∀ {c : Nat}, (c ≠ 38) → Jn (s_up C 19 0 x) (s_up M 38 0 y) c = Jn (s_up C 19 0 x) (s_up M 38 0 x) c := by
    intro c hc
    unfold Jn
    rw [s_up_cell hc, s_up_cell hc]
  have e38 : Jn (s_up C 19 0 x) (s_up M 38 0 y) 38 = va_up (Jn (s_up C 19 0 x) (s_up M 38 0 x) 38) 0 y := by
    rw [J_hi (by decide), J_hi (by decide), s_up_same, s_up_same]
    funext j
    unfold va_up
    split
    · rfl
    · rfl
  refine ⟨?_, ?_, ?_, ?_, ?_, ?_⟩
  · intro q j hq
    by_cases q38 : q = 38
    · subst q38
      rw [e38]
      unfold va_up
      split
      · exact ⟨hy.1, hy.2⟩
      · exact hI0 38 j hq
    · rw [e q38]; exact hI0 q j hq
  · unfold RA
    rw [e (c := 1) (by decide), e (c := 2) (by decide), e (c := 3) (by decide), e (c := 0) (by decide), e (c := 25) (by decide)]
    exact hA
  · unfold RB
    rw [e (c := 6) (by decide), e (c := 7) (by decide), e (c := 8) (by decide), e (c := 9) (by decide), e (c := 10) (by decide), e (c := 11) (by decide), e (c := 12) (by decide), e (c := 13) (by decide), e (c := 14) (by decide), e (c := 15) (by decide), e (c := 16) (by decide), e (c := 26) (by decide), e (c := 27) (by decide), e (c := 28) (by decide), e (c := 29) (by decide), e (c := 30) (by decide), e (c := 31) (by decide), e (c := 32) (by decide), e (c := 33) (by decide), e (c := 34) (by decide), e (c := 35) (by decide), e (c := 36) (by decide)]
    exact hB
  · unfold RC
    rw [e (c := 17) (by decide), e (c := 18) (by decide), e (c := 19) (by decide), e (c := 20) (by decide), e (c := 37) (by decide), e (c := 39) (by decide), e (c := 40) (by decide), e38]
    refine ⟨hC.1, hC.2.1, fun k hk => ?_, hC.2.2.2⟩
    unfold va_up
    rw [if_neg hk]
    exact hC.2.2.1 k hk
  · unfold RL
    rw [e (c := 1) (by decide), e (c := 2) (by decide), e (c := 8) (by decide), e (c := 15) (by decide), e (c := 10) (by decide), e (c := 20) (by decide), e (c := 18) (by decide), e (c := 23) (by decide)]
    exact hL
  · intro k h1 h2
    rw [e (c := 3) (by decide)] at h2
    obtain ⟨r1, r2⟩ := hR k h1 h2
    refine ⟨?_, by rw [e (c := 18) (by decide), e (c := 2) (by decide)]; exact r2⟩
    unfold Rw tTm
    rw [e (c := 1) (by decide), e (c := 8) (by decide), e (c := 15) (by decide), e (c := 18) (by decide), e (c := 20) (by decide), e (c := 21) (by decide), e (c := 22) (by decide), e (c := 23) (by decide), e (c := 24) (by decide), e (c := 41) (by decide), e (c := 42) (by decide)]
    exact r1
/-- the relation gives what the search must know -/
theorem ek_of {C M : St} (h : Rel (Jn C M)) (h0 : Rw (Jn C M) 0) (hC : Inv C) (hs : 1 ≤ C 15 (C 18 0).toNat) : Ek C := by
  have hry := beg_ry h h0 hs (t := 0) (by decide)
  have i20 := iv_20 hC 0
  refine ⟨hC, fun i hi => ?_, fun k j k1 k2 hj => ?_, fun k k1 k2 q q0 q1 hq => ?_⟩
  · have hz := lv_tk hry.1 i (by rw [J_lo (by decide), s_up_cell (by decide)]; exact hi)
    have e1 : enA (Jn (s_up C 19 0 0) (s_up M 38 0 0)) ((0 : Nat) : Int) (i : Int) = 0 + nE C (i : Int) := by
      rw [enA_rs, rs_J, ← enA_rs]
      exact en_b C 0 (i : Int)
    have e2 : lvA (Jn (s_up C 19 0 0) (s_up M 38 0 0)) ((0 : Nat) : Int) (i : Int) = 0 + nL C (i : Int) := by
      have : lvA (Jn (s_up C 19 0 0) (s_up M 38 0 0)) = lvA (s_up C 19 0 0) := by
        have a1 : lvA (Jn (s_up C 19 0 0) (s_up M 38 0 0)) = lvA (rs (Jn (s_up C 19 0 0) (s_up M 38 0 0))) := rfl
        have a2 : lvA (s_up C 19 0 0) = lvA (rs (s_up C 19 0 0)) := rfl
        rw [a1, rs_J, ← a2]
      rw [this]
      exact lv_b C 0 (i : Int)
    rw [e1, e2] at hz
    omega
  · have hx := rel_rx h (k := k) k1 (by rw [J_lo (by decide)]; exact k2)
    have hz := lv_tk hx j (by rw [J_lo (by decide)]; exact hj)
    have e1 : enA (Jn C M) = enA C := by
      have a1 : enA (Jn C M) = enA (rs (Jn C M)) := rfl
      have a2 : enA C = enA (rs C) := rfl
      rw [a1, rs_J, ← a2]
    have e2 : lvA (Jn C M) = lvA C := by
      have a1 : lvA (Jn C M) = lvA (rs (Jn C M)) := rfl
      have a2 : lvA C = lvA (rs C) := rfl
      rw [a1, rs_J, ← a2]
    rw [e1, e2] at hz
    omega
  · have hx := rel_rx h (k := k) k1 (by rw [J_lo (by decide)]; exact k2)
    rcases hx.2.2.2.2.2.2.2.1.2.2 q.toNat (by omega) with z | ⟨j, a1, a2, a3⟩
    · exfalso
      rw [J_lo (by decide)] at z
      apply hq
      unfold stO
      rw [ix12 k q0, z]
      rfl
    · rw [J_lo (by decide)] at a1 a2
      refine ⟨j, a1, ?_⟩
      unfold stO
      rw [ix12 k q0, a2]
      omega
theorem km_ea {S T : St} (h2 : S 2 0 = T 25 10) (h6 : S 0 6 = T 25 15) (sh a b t : Int) : kmE T sh a b t = kEa S sh a b t := by
  unfold kmE kEa mPs voy
  rw [← h2, ← h6]
  by_cases c : wn sh 0 (S 2 0 - 1) = true ∧ wn a 0 7 = true ∧ wn b 0 7 = true ∧ wn t (S 0 6) 100000 = true
  · rw [if_pos (show (wn sh 0 (S 2 0 - 1) && (wn a 0 7 && (wn b 0 7 && wn t (S 0 6) 100000))) = true by simp [c.1, c.2.1, c.2.2.1, c.2.2.2]), if_pos (show (wn sh 0 (S 2 0 - 1) && (wn a 0 7 && wn b 0 7)) = true ∧ wn t (S 0 6) 100000 = true from ⟨by simp [c.1, c.2.1, c.2.2.1], c.2.2.2⟩)]
  · rw [if_neg (fun z => c (by
      rw [Bool.and_eq_true, Bool.and_eq_true, Bool.and_eq_true] at z
      exact ⟨z.1, z.2.1, z.2.2.1, z.2.2.2⟩)), if_neg (fun z => c (by
      have z1 := z.1
      rw [Bool.and_eq_true, Bool.and_eq_true] at z1
      exact ⟨z1.1, z1.2.1, z1.2.2, z.2⟩))]
theorem s_up_id (S : St) (q i : Nat) : s_up S q i (S q i) = S := by
  funext c j
  rw [s_up_at]
  split
  · rename_i h
    rw [h.1, h.2]
  · rfl
theorem e_early {S : St} (h : Rel S) {sh a b t : Int} (hk : kEa S sh a b t = 0) {T : St} (hT : Sm (eaP S sh a b t).1 T) : Inv T ∧ Rel (mEp (s_up T 25 0 0) sh a b t).1 ∧ (mEp (s_up T 25 0 0) sh a b t).2 = (eaP S sh a b t).2 := by
  have i6 := iv_0 h.1 6
  have hv : voy S sh a b = true ∧ wn t (S 0 6) 100000 = true := by
    unfold kEa at hk
    split at hk
    · rename_i c; exact c
    · omega
  obtain ⟨hsh, ha, hb⟩ := voy_b hv.1
  have htw := wn_t hv.2
  have i2 := iv_2 h.1 0
  have hs := h.2.2.2.2.1.2.1 sh.toNat (by omega)
  have hC1 := pRt_I b h.1 (sh := sh) (a := a) (by omega) ha hs
  -- the class's end, whatever it is
  have hend : ∃ x, (eaP S sh a b t).1 = s_up (pRt S sh a b).1 19 0 x ∧ 0 ≤ x ∧ x ≤ 100000 := by
    have key : ∀ (f : Nat) (T0 : St) (v x0 : Int), T0 = s_up (pRt S sh a b).1 19 0 x0 → 0 ≤ x0 → x0 ≤ 100000 → 0 ≤ v → ∃ x, (eaL (min (t + 2880) 100000) f T0 v).1 = s_up (pRt S sh a b).1 19 0 x ∧ 0 ≤ x ∧ x ≤ 100000 := by
      intro f
      induction f with
      | zero => intro T0 v x0 h1 h2 h3 _; exact ⟨x0, h1, h2, h3⟩
      | succ f ih =>
        intro T0 v x0 h1 h2 h3 h4
        rw [eaL_s _ _ _ _ (by omega)]
        split
        · have e1 : s_up T0 19 0 v = s_up (pRt S sh a b).1 19 0 v := by rw [h1, s_up_up]
          rw [e1]
          split
          · exact ⟨v, rfl, h4, by omega⟩
          · exact ih _ _ v rfl h4 (by omega) (by omega)
        · exact ⟨x0, h1, h2, h3⟩
    unfold eaP
    have i19 := iv_19 hC1 0
    split
    · exact ⟨(pRt S sh a b).1 19 0, (s_up_id _ _ _).symm, i19.1, i19.2⟩
    · exact key 2882 _ t ((pRt S sh a b).1 19 0) (s_up_id _ _ _).symm i19.1 i19.2 (by omega)
  obtain ⟨x, hx, hx0, hx1⟩ := hend
  have hCI : Inv (eaP S sh a b t).1 := by rw [hx]; exact Inv.up (q := 19) hC1 hx0 (show _ ≤ (100000 : Int) by omega)
  have hM := mb_of h (C := (eaP S sh a b t).1) (fun c hc => by rw [hx, s_up_cell (by omega), pRt_hi S sh a b hc]) hCI hT
  obtain ⟨p1, p2, p3, p4, p5, p6⟩ := plan_rel h hM hsh ha hb
  have hlo : ∀ c, c < 25 → (mLy (s_up T 25 0 0) sh a b).1 c = (eaP S sh a b t).1 c := fun c hc => by rw [mLy_lo sh a b hc, s_up_cell (by omega), hT c (by omega)]
  refine ⟨hT.inv hCI, ?_⟩
  have fin : ∀ y, 0 ≤ y → y ≤ 100000 → Rel (s_up (mLy (s_up T 25 0 0) sh a b).1 38 0 y) := by
    intro y y0 y1
    have hz := beg_rel2 p1 (x := x) (y := y) ⟨hx0, hx1⟩ ⟨y0, y1⟩
    rwa [Jn_self (fun c hc => by rw [s_up_cell (by omega), hlo c hc, hx])] at hz
  have i38 := iv_38 p3 0
  have finid : Rel (mLy (s_up T 25 0 0) sh a b).1 := by
    have := fin _ i38.1 i38.2
    rwa [s_up_id] at this
  rcases p6 with ⟨q1, q2⟩ | ⟨q1, q2, q3, q4, q5, q6⟩
  · have eM : mEp (s_up T 25 0 0) sh a b t = ((mLy (s_up T 25 0 0) sh a b).1, -1) := by unfold mEp; rw [if_pos q2]
    have eC : (eaP S sh a b t).2 = -1 := by unfold eaP; rw [if_pos q1]
    rw [eM, eC]
    exact ⟨finid, rfl⟩
  · have n1 : ¬ (pRt S sh a b).2 = 0 := by rw [q1]; decide
    have n2 : ¬ (mLy (s_up T 25 0 0) sh a b).2 = false := by rw [q2]; decide
    have hE := ek_of p1 q3 p2 (by rw [p4]; exact p5)
    have eC : eaP S sh a b t = eaL (min (t + 2880) 100000) 2882 (pRt S sh a b).1 t := by unfold eaP; rw [if_neg n1]
    have eM : mEp (s_up T 25 0 0) sh a b t = mEl t 2882 (mLy (s_up T 25 0 0) sh a b).1 t := by unfold mEp; rw [if_neg n2]
    have hF : ∀ u, 0 ≤ u → u ≤ 100000 → (mAg (s_up (mLy (s_up T 25 0 0) sh a b).1 38 0 u) 0 0 0 (s_up (mLy (s_up T 25 0 0) sh a b).1 38 0 u 40 (0 : Int).toNat).toNat = 0 ↔ fBr (s_up (pRt S sh a b).1 19 0 u) 0 0 ((pRt S sh a b).1 20 0).toNat = 0) := by
      intro u u0 u1
      have hry := beg_ry p1 q3 (by rw [p4]; exact p5) (t := u) ⟨u0, u1⟩
      have hag := ag_J (k := 0) hry
      have e20 : s_up (pRt S sh a b).1 19 0 u 20 0 = (pRt S sh a b).1 20 0 := by rw [s_up_cell (by decide)]
      have hag' : mAg (s_up (mLy (s_up T 25 0 0) sh a b).1 38 0 u) 0 0 0 (s_up (mLy (s_up T 25 0 0) sh a b).1 38 0 u 40 (0 : Int).toNat).toNat = fBr (s_up (pRt S sh a b).1 19 0 u) 0 0 (s_up (pRt S sh a b).1 19 0 u 20 0).toNat := hag
      rw [hag', e20]
    obtain ⟨c1, -⟩ := eaL_spec hE (last := min (t + 2880) 100000) 2882 (pRt S sh a b).1 t (by omega) (fun _ => rfl) (by omega)
    obtain ⟨d1, y, d2⟩ := mEl_spec (t := t) hF 2882 (mLy (s_up T 25 0 0) sh a b).1 t (by omega) (fun _ => rfl) (by omega)
    refine ⟨?_, ?_⟩
    · rw [eM]
      rcases d2 with d2 | ⟨d2, d3, d4⟩
      · rw [d2]; exact finid
      · rw [d2]; exact fin y d3 d4
    · rw [eM, eC]
      exact Lst.uni (by omega) d1 c1

/-! call by call: rule, tick, back, piece, ship -/
theorem e_tick {S : St} (h : Rel S) (t : Int) : let C := (if wn t (S 0 6) 100000 = true then s_up S 0 6 t else S); wn t ((s_up C 25 0 0) 25 15) 100000 = wn t (S 0 6) 100000 ∧ Rel (if wn t ((s_up C 25 0 0) 25 15) 100000 = true then s_up (s_up C 25 0 0) 25 15 t else s_up C 25 0 0) := by
  intro C
  have h15 : s_up C 25 0 0 25 15 = S 0 6 := by
    rw [s_up_ne (by decide), h.2.1.2.2.2.2]
    show (if wn t (S 0 6) 100000 = true then s_up S 0 6 t else S) 25 15 = _
    split
    · rw [s_up_cell (by decide)]
    · rfl
  refine ⟨by rw [h15], ?_⟩
  rw [h15]
  by_cases hw : wn t (S 0 6) 100000 = true
  · rw [if_pos hw]
    have hC : C = s_up S 0 6 t := if_pos hw
    rw [hC]
    have i6 := iv_0 h.1 6
    have ht := wn_t hw
    obtain ⟨hI0, hA0, hB, hC0, hL, hR⟩ := h
    have hI : Inv (s_up (s_up (s_up S 0 6 t) 25 0 0) 25 15 t) := Inv.up (q := 25) (Inv.up (q := 25) (Inv.up (q := 0) hI0 (by omega) (show _ ≤ (100000 : Int) by omega)) (by decide) (show (0 : Int) ≤ 2 by decide)) (by omega) (show _ ≤ (100000 : Int) by omega)
    have e : ∀ {c : Nat}, (c ≠ 0 ∧ c ≠ 25) → s_up (s_up (s_up S 0 6 t) 25 0 0) 25 15 t c = S c := fun h => by rw [s_up_cell h.2, s_up_cell h.2, s_up_cell h.1]
    refine ⟨hI, ?_, ?_, ?_, ?_, ?_⟩
    · unfold RA; rw [e (c := 1) (by decide), e (c := 2) (by decide), e (c := 3) (by decide)]; simp [s_up_at]; exact ⟨hA0.1, hA0.2.1, hA0.2.2.1, hA0.2.2.2.1⟩
    · unfold RB; rw [e (c := 6) (by decide), e (c := 7) (by decide), e (c := 8) (by decide), e (c := 9) (by decide), e (c := 10) (by decide), e (c := 11) (by decide), e (c := 12) (by decide), e (c := 13) (by decide), e (c := 14) (by decide), e (c := 15) (by decide), e (c := 16) (by decide), e (c := 26) (by decide), e (c := 27) (by decide), e (c := 28) (by decide), e (c := 29) (by decide), e (c := 30) (by decide), e (c := 31) (by decide), e (c := 32) (by decide), e (c := 33) (by decide), e (c := 34) (by decide), e (c := 35) (by decide), e (c := 36) (by decide)]; exact hB
    · unfold RC; rw [e (c := 17) (by decide), e (c := 18) (by decide), e (c := 19) (by decide), e (c := 20) (by decide), e (c := 37) (by decide), e (c := 38) (by decide), e (c := 39) (by decide), e (c := 40) (by decide)]; exact hC0
    · unfold RL; rw [e (c := 1) (by decide), e (c := 2) (by decide), e (c := 8) (by decide), e (c := 15) (by decide), e (c := 10) (by decide), e (c := 20) (by decide), e (c := 18) (by decide), e (c := 23) (by decide)]; exact hL
    · intro k1 h1 h2
      rw [e (c := 3) (by decide)] at h2
      obtain ⟨r1, r2⟩ := hR k1 h1 h2
      refine ⟨?_, by rw [e (c := 18) (by decide), e (c := 2) (by decide)]; exact r2⟩
      unfold Rw tTm; rw [e (c := 1) (by decide), e (c := 8) (by decide), e (c := 15) (by decide), e (c := 18) (by decide), e (c := 20) (by decide), e (c := 21) (by decide), e (c := 22) (by decide), e (c := 23) (by decide), e (c := 24) (by decide), e (c := 41) (by decide), e (c := 42) (by decide)]; exact r1
  · rw [if_neg hw]
    have hC : C = S := if_neg hw
    rw [hC]
    exact th_rel h (by decide)
theorem e_rule {S : St} (h : Rel S) {q k v : Int} : let C := (if rul S q k v = true then s_up S 10 (q * 5 + k).toNat v else S); mRu (s_up C 25 0 0) q k v = rul S q k v ∧ Rel (if mRu (s_up C 25 0 0) q k v = true then s_up (s_up C 25 0 0) 30 (5 * q + k).toNat v else s_up C 25 0 0) := by
  intro C
  have h1 : s_up C 25 0 0 25 1 = S 1 0 := by
    rw [s_up_ne (by decide), h.2.1.1]
    show (if rul S q k v = true then s_up S 10 (q * 5 + k).toNat v else S) 25 1 = _
    split
    · rw [s_up_cell (by decide)]
    · rfl
  have hm : mRu (s_up C 25 0 0) q k v = rul S q k v := by
    unfold mRu rul
    rw [h1]
    congr 1
    cases hk : wn k 0 4 with
    | false => rfl
    | true =>
      have := wn_t hk
      simp only [Bool.true_and]
      unfold gV
      by_cases c1 : k < 2
      · rw [if_pos c1]
        by_cases c2 : k = 0
        · rw [if_pos c2]
        · rw [if_neg c2, if_pos (show k = 1 by omega)]
      · rw [if_neg c1, if_neg (show ¬ k = 0 by omega), if_neg (show ¬ k = 1 by omega)]
        by_cases c2 : k = 2
        · rw [if_pos c2, if_pos c2]
        · rw [if_neg c2, if_neg c2]
  refine ⟨hm, ?_⟩
  rw [hm]
  by_cases hw : rul S q k v = true
  · rw [if_pos hw]
    have hC : C = s_up S 10 (q * 5 + k).toNat v := if_pos hw
    rw [hC]
    have hb : (0 ≤ q ∧ q ≤ S 1 0 - 1) ∧ (0 ≤ k ∧ k ≤ 4) ∧ (0 ≤ v ∧ v ≤ gV k) := by
      unfold rul at hw
      rw [Bool.and_eq_true, Bool.and_eq_true] at hw
      exact ⟨wn_t hw.1, wn_t hw.2.1, wn_t hw.2.2⟩
    have hg := gV_b k
    obtain ⟨hI0, hA0, hB, hC0, hL, hR⟩ := h
    have hI : Inv (s_up (s_up (s_up S 10 (q * 5 + k).toNat v) 25 0 0) 30 (5 * q + k).toNat v) := Inv.up (q := 30) (Inv.up (q := 25) (Inv.up (q := 10) hI0 (by omega) (show _ ≤ (100 : Int) by omega)) (by decide) (show (0 : Int) ≤ 2 by decide)) (by omega) (show _ ≤ (100 : Int) by omega)
    have e : ∀ {c : Nat}, (c ≠ 10 ∧ c ≠ 25 ∧ c ≠ 30) → s_up (s_up (s_up S 10 (q * 5 + k).toNat v) 25 0 0) 30 (5 * q + k).toNat v c = S c := fun h => by rw [s_up_cell h.2.2, s_up_cell h.2.1, s_up_cell h.1]
    have u : ∀ j, j ≠ 0 → s_up (s_up (s_up S 10 (q * 5 + k).toNat v) 25 0 0) 30 (5 * q + k).toNat v 25 j = S 25 j := fun j hj => by rw [s_up_cell (by decide), s_up_ne hj, s_up_cell (by decide)]
    have t10 : s_up (s_up (s_up S 10 (q * 5 + k).toNat v) 25 0 0) 30 (5 * q + k).toNat v 10 = va_up (S 10) (q * 5 + k).toNat v := by rw [s_up_cell (by decide), s_up_cell (by decide), s_up_same]
    have t30 : s_up (s_up (s_up S 10 (q * 5 + k).toNat v) 25 0 0) 30 (5 * q + k).toNat v 30 = va_up (S 30) (q * 5 + k).toNat v := by rw [s_up_same, s_up_cell (by decide), s_up_cell (by decide), show 5 * q + k = q * 5 + k by omega]
    refine ⟨hI, ?_, ?_, ?_, ?_, ?_⟩
    · unfold RA; rw [e (c := 1) (by decide), e (c := 2) (by decide), e (c := 3) (by decide), e (c := 0) (by decide), u 1 (by decide), u 10 (by decide), u 16 (by decide), u 14 (by decide), u 15 (by decide)]; exact hA0
    · unfold RB; rw [e (c := 6) (by decide), e (c := 7) (by decide), e (c := 8) (by decide), e (c := 9) (by decide), e (c := 11) (by decide), e (c := 12) (by decide), e (c := 13) (by decide), e (c := 14) (by decide), e (c := 15) (by decide), e (c := 16) (by decide), e (c := 26) (by decide), e (c := 27) (by decide), e (c := 28) (by decide), e (c := 29) (by decide), e (c := 31) (by decide), e (c := 32) (by decide), e (c := 33) (by decide), e (c := 34) (by decide), e (c := 35) (by decide), e (c := 36) (by decide), t10, t30, ← hB.2.2.2.2.1]; exact ⟨hB.1, hB.2.1, hB.2.2.1, hB.2.2.2.1, rfl, hB.2.2.2.2.2⟩
    · unfold RC; rw [e (c := 17) (by decide), e (c := 18) (by decide), e (c := 19) (by decide), e (c := 20) (by decide), e (c := 37) (by decide), e (c := 38) (by decide), e (c := 39) (by decide), e (c := 40) (by decide)]; exact hC0
    · unfold RL; rw [e (c := 1) (by decide), e (c := 2) (by decide), e (c := 8) (by decide), e (c := 15) (by decide), e (c := 20) (by decide), e (c := 18) (by decide), e (c := 23) (by decide), t10]; refine ⟨hL.1, hL.2.1, fun q1 => ?_, fun q1 => ?_, hL.2.2.2.2⟩
      · unfold va_up; split
        · have hk0 : k = 0 := (by omega)
          rw [hk0] at hb; exact hb.2.2.2
        · exact hL.2.2.1 q1
      · unfold va_up; split
        · have hk0 : k = 4 := (by omega)
          rw [hk0] at hb; exact hb.2.2.2
        · exact hL.2.2.2.1 q1
    · intro k1 h1 h2
      rw [e (c := 3) (by decide)] at h2
      obtain ⟨r1, r2⟩ := hR k1 h1 h2
      refine ⟨?_, by rw [e (c := 18) (by decide), e (c := 2) (by decide)]; exact r2⟩
      unfold Rw tTm; rw [e (c := 1) (by decide), e (c := 8) (by decide), e (c := 15) (by decide), e (c := 18) (by decide), e (c := 20) (by decide), e (c := 21) (by decide), e (c := 22) (by decide), e (c := 23) (by decide), e (c := 24) (by decide), e (c := 41) (by decide), e (c := 42) (by decide)]; exact r1
  · rw [if_neg hw]
    have hC : C = S := if_neg hw
    rw [hC]
    exact th_rel h (by decide)
theorem e_back {S : St} (h : Rel S) {k : Int} : let C := (if (wn k 1 (S 3 0) && stB S k) = true then s_up S 17 k.toNat 0 else S); mBk (s_up C 25 0 0) k = (wn k 1 (S 3 0) && stB S k) ∧ Rel (if mBk (s_up C 25 0 0) k = true then s_up (s_up C 25 0 0) 39 k.toNat 0 else s_up C 25 0 0) := by
  intro C
  have hc : ∀ {c : Nat}, (c ≠ 17) → C c = S c := by
    intro c hc
    show (if (wn k 1 (S 3 0) && stB S k) = true then s_up S 17 k.toNat 0 else S) c = _
    split
    · exact s_up_cell hc
    · rfl
  have hm : mBk (s_up C 25 0 0) k = (wn k 1 (S 3 0) && stB S k) := by
    unfold mBk stB
    rw [s_up_ne (show 16 ≠ 0 by decide), s_up_ne (show 15 ≠ 0 by decide), s_up_cell (show 39 ≠ 25 by decide), s_up_cell (show 38 ≠ 25 by decide), hc (c := 25) (by decide), hc (c := 39) (by decide), hc (c := 38) (by decide), ← h.2.1.2.2.1, ← h.2.1.2.2.2.2, ← h.2.2.2.1.1]
    cases hk : wn k 1 (S 3 0) with
    | false => rfl
    | true =>
      have := wn_t hk
      rw [← h.2.2.2.1.2.2.1 k.toNat (by omega)]
  refine ⟨hm, ?_⟩
  rw [hm]
  by_cases hw : (wn k 1 (S 3 0) && stB S k) = true
  · rw [if_pos hw]
    have hC : C = s_up S 17 k.toNat 0 := if_pos hw
    rw [hC]
    obtain ⟨hI0, hA0, hB, hC0, hL, hR⟩ := h
    have hI : Inv (s_up (s_up (s_up S 17 k.toNat 0) 25 0 0) 39 k.toNat 0) := Inv.up (q := 39) (Inv.up (q := 25) (Inv.up (q := 17) hI0 (by decide) (show (0 : Int) ≤ 1 by decide)) (by decide) (show (0 : Int) ≤ 2 by decide)) (by decide) (show (0 : Int) ≤ 1 by decide)
    have e : ∀ {c : Nat}, (c ≠ 17 ∧ c ≠ 25 ∧ c ≠ 39) → s_up (s_up (s_up S 17 k.toNat 0) 25 0 0) 39 k.toNat 0 c = S c := fun h => by rw [s_up_cell h.2.2, s_up_cell h.2.1, s_up_cell h.1]
    have u : ∀ j, j ≠ 0 → s_up (s_up (s_up S 17 k.toNat 0) 25 0 0) 39 k.toNat 0 25 j = S 25 j := fun j hj => by rw [s_up_cell (by decide), s_up_ne hj, s_up_cell (by decide)]
    have t17 : s_up (s_up (s_up S 17 k.toNat 0) 25 0 0) 39 k.toNat 0 17 = va_up (S 17) k.toNat 0 := by rw [s_up_cell (by decide), s_up_cell (by decide), s_up_same]
    have t39 : s_up (s_up (s_up S 17 k.toNat 0) 25 0 0) 39 k.toNat 0 39 = va_up (S 39) k.toNat 0 := by rw [s_up_same, s_up_cell (by decide), s_up_cell (by decide)]
    refine ⟨hI, ?_, ?_, ?_, ?_, ?_⟩
    · unfold RA; rw [e (c := 1) (by decide), e (c := 2) (by decide), e (c := 3) (by decide), e (c := 0) (by decide), u 1 (by decide), u 10 (by decide), u 16 (by decide), u 14 (by decide), u 15 (by decide)]; exact hA0
    · unfold RB; rw [e (c := 6) (by decide), e (c := 7) (by decide), e (c := 8) (by decide), e (c := 9) (by decide), e (c := 10) (by decide), e (c := 11) (by decide), e (c := 12) (by decide), e (c := 13) (by decide), e (c := 14) (by decide), e (c := 15) (by decide), e (c := 16) (by decide), e (c := 26) (by decide), e (c := 27) (by decide), e (c := 28) (by decide), e (c := 29) (by decide), e (c := 30) (by decide), e (c := 31) (by decide), e (c := 32) (by decide), e (c := 33) (by decide), e (c := 34) (by decide), e (c := 35) (by decide), e (c := 36) (by decide)]; exact hB
    · unfold RC; rw [e (c := 18) (by decide), e (c := 19) (by decide), e (c := 20) (by decide), e (c := 37) (by decide), e (c := 38) (by decide), e (c := 40) (by decide), t17, t39, ← hC0.1]; exact ⟨rfl, hC0.2⟩
    · unfold RL; rw [e (c := 1) (by decide), e (c := 2) (by decide), e (c := 8) (by decide), e (c := 15) (by decide), e (c := 10) (by decide), e (c := 20) (by decide), e (c := 18) (by decide), e (c := 23) (by decide)]; exact hL
    · intro k1 h1 h2
      rw [e (c := 3) (by decide)] at h2
      obtain ⟨r1, r2⟩ := hR k1 h1 h2
      refine ⟨?_, by rw [e (c := 18) (by decide), e (c := 2) (by decide)]; exact r2⟩
      unfold Rw tTm; rw [e (c := 1) (by decide), e (c := 8) (by decide), e (c := 15) (by decide), e (c := 18) (by decide), e (c := 20) (by decide), e (c := 21) (by decide), e (c := 22) (by decide), e (c := 23) (by decide), e (c := 24) (by decide), e (c := 41) (by decide), e (c := 42) (by decide)]; exact r1
  · rw [if_neg hw]
    have hC : C = S := if_neg hw
    rw [hC]
    exact th_rel h (by decide)
theorem km_sh {S T : St} (h : S 2 0 = T 25 10) (hI : Inv S) (a b d : Int) : kmS T a b d = kSh S a b d := by
  have i2 := iv_2 hI 0
  unfold kmS kSh
  rw [← h]
  by_cases c : wn a 1 100 = true ∧ wn b 1 20 = true ∧ wn d 0 2 = true
  · rw [if_pos c, if_pos c]
    by_cases c2 : S 2 0 = 12
    · rw [if_pos c2, if_neg (by omega)]
    · rw [if_neg c2, if_pos (by omega)]
  · rw [if_neg c, if_neg c]
theorem e_ship {S : St} (h : Rel S) {a b d : Int} (hk : kSh S a b d = 0) {T : St} (hT : Sm (sAdd S a b d) T) : Inv T ∧ Rel (mSh (s_up T 25 0 0) a b d) := by
  have i2 := iv_2 h.1 0
  have hb : (1 ≤ a ∧ a ≤ 100) ∧ (1 ≤ b ∧ b ≤ 20) ∧ (0 ≤ d ∧ d ≤ 2) ∧ S 2 0 < 12 := by
    unfold kSh at hk
    split at hk
    · rename_i c
      split at hk
      · rename_i c2
        exact ⟨wn_t c.1, wn_t c.2.1, wn_t c.2.2, c2⟩
      · omega
    · omega
  obtain ⟨hI0, hA0, hB, hC0, hL, hR⟩ := h
  have hIc : Inv (sAdd S a b d) := Inv.up (q := 2) (Inv.up (q := 16) (Inv.up (q := 15) (Inv.up (q := 14) hI0 (by omega) (show _ ≤ (100 : Int) by omega)) (by omega) (show _ ≤ (20 : Int) by omega)) (by omega) (show _ ≤ (2 : Int) by omega)) (by omega) (show _ ≤ (12 : Int) by omega)
  have hIT := hT.inv hIc
  refine ⟨hIT, ?_⟩
  have tc : ∀ {c : Nat}, (c ≠ 44 ∧ c ≠ 2 ∧ c ≠ 14 ∧ c ≠ 15 ∧ c ≠ 16) → T c = S c := fun h => by rw [hT _ h.1]; unfold sAdd; rw [s_up_cell h.2.1, s_up_cell h.2.2.2.2, s_up_cell h.2.2.2.1, s_up_cell h.2.2.1]
  have p0 : s_up T 25 0 0 25 10 = S 2 0 := by rw [s_up_ne (by decide), tc (c := 25) (by decide), hA0.2.1]
  have ht : ∀ {c : Nat}, (c ≠ 25 ∧ c ≠ 34 ∧ c ≠ 35 ∧ c ≠ 36) → mSh (s_up T 25 0 0) a b d c = T c := fun h => by unfold mSh; rw [s_up_cell h.1, s_up_cell h.2.2.2, s_up_cell h.2.2.1, s_up_cell h.2.1, s_up_cell h.1]
  have hI : Inv (mSh (s_up T 25 0 0) a b d) := by
    have a0 := Inv.up (q := 25) (i := 0) (x := 0) hIT (by decide) (show (0 : Int) ≤ 2 by decide)
    exact Inv.up (q := 25) (i := 10) (Inv.up (q := 36) (Inv.up (q := 35) (Inv.up (q := 34) a0 (by omega) (show _ ≤ (100 : Int) by omega)) (by omega) (show _ ≤ (20 : Int) by omega)) (by omega) (show _ ≤ (2 : Int) by omega)) (by omega) (show _ ≤ (12 : Int) by omega)
  have e : ∀ {c : Nat}, (c ≠ 44 ∧ c ≠ 2 ∧ c ≠ 14 ∧ c ≠ 15 ∧ c ≠ 16 ∧ c ≠ 25 ∧ c ≠ 34 ∧ c ≠ 35 ∧ c ≠ 36) → mSh (s_up T 25 0 0) a b d c = S c := fun h => by rw [ht ⟨h.2.2.2.2.2.1, h.2.2.2.2.2.2.1, h.2.2.2.2.2.2.2.1, h.2.2.2.2.2.2.2.2⟩, tc ⟨h.1, h.2.1, h.2.2.1, h.2.2.2.1, h.2.2.2.2.1⟩]
  have u : ∀ j, j ≠ 0 → j ≠ 10 → mSh (s_up T 25 0 0) a b d 25 j = S 25 j := fun j hj h10 => by unfold mSh; rw [s_up_ne h10, s_up_cell (by decide), s_up_cell (by decide), s_up_cell (by decide), s_up_ne hj, tc (c := 25) (by decide)]
  have u10 : mSh (s_up T 25 0 0) a b d 25 10 = S 2 0 + 1 := by unfold mSh; rw [s_up_self, p0]
  have v2 : mSh (s_up T 25 0 0) a b d 2 0 = S 2 0 + 1 := by rw [ht (by decide), hT 2 (by decide)]; unfold sAdd; rw [s_up_self]
  have v14 : mSh (s_up T 25 0 0) a b d 14 = va_up (S 14) (S 2 0).toNat a := by rw [ht (by decide), hT 14 (by decide)]; unfold sAdd; rw [s_up_cell (by decide), s_up_cell (by decide), s_up_cell (by decide), s_up_same]
  have v15 : mSh (s_up T 25 0 0) a b d 15 = va_up (S 15) (S 2 0).toNat b := by rw [ht (by decide), hT 15 (by decide)]; unfold sAdd; rw [s_up_cell (by decide), s_up_cell (by decide), s_up_same, s_up_cell (by decide)]
  have v16 : mSh (s_up T 25 0 0) a b d 16 = va_up (S 16) (S 2 0).toNat d := by rw [ht (by decide), hT 16 (by decide)]; unfold sAdd; rw [s_up_cell (by decide), s_up_same, s_up_cell (by decide), s_up_cell (by decide)]
  have v34 : mSh (s_up T 25 0 0) a b d 34 = va_up (S 34) (S 2 0).toNat a := by unfold mSh; rw [p0, s_up_cell (by decide), s_up_cell (by decide), s_up_cell (by decide), s_up_same, s_up_cell (by decide), tc (c := 34) (by decide)]
  have v35 : mSh (s_up T 25 0 0) a b d 35 = va_up (S 35) (S 2 0).toNat b := by unfold mSh; rw [p0, s_up_cell (by decide), s_up_cell (by decide), s_up_same, s_up_cell (by decide), s_up_cell (by decide), tc (c := 35) (by decide)]
  have v36 : mSh (s_up T 25 0 0) a b d 36 = va_up (S 36) (S 2 0).toNat d := by unfold mSh; rw [p0, s_up_cell (by decide), s_up_same, s_up_cell (by decide), s_up_cell (by decide), s_up_cell (by decide), tc (c := 36) (by decide)]
  refine ⟨hI, ?_, ?_, ?_, ?_, ?_⟩
  · unfold RA; rw [e (c := 1) (by decide), e (c := 3) (by decide), e (c := 0) (by decide), v2, u10, u 1 (by decide) (by decide), u 16 (by decide) (by decide), u 14 (by decide) (by decide), u 15 (by decide) (by decide)]; exact ⟨hA0.1, rfl, hA0.2.2⟩
  · unfold RB; rw [e (c := 6) (by decide), e (c := 7) (by decide), e (c := 8) (by decide), e (c := 9) (by decide), e (c := 10) (by decide), e (c := 11) (by decide), e (c := 12) (by decide), e (c := 13) (by decide), e (c := 26) (by decide), e (c := 27) (by decide), e (c := 28) (by decide), e (c := 29) (by decide), e (c := 30) (by decide), e (c := 31) (by decide), e (c := 32) (by decide), e (c := 33) (by decide), v14, v15, v16, v34, v35, v36, ← hB.2.2.2.2.2.2.2.2.1, ← hB.2.2.2.2.2.2.2.2.2.1, ← hB.2.2.2.2.2.2.2.2.2.2]; exact ⟨hB.1, hB.2.1, hB.2.2.1, hB.2.2.2.1, hB.2.2.2.2.1, hB.2.2.2.2.2.1, hB.2.2.2.2.2.2.1, hB.2.2.2.2.2.2.2.1, rfl, rfl, rfl⟩
  · unfold RC; rw [e (c := 17) (by decide), e (c := 18) (by decide), e (c := 19) (by decide), e (c := 20) (by decide), e (c := 37) (by decide), e (c := 38) (by decide), e (c := 39) (by decide), e (c := 40) (by decide)]; exact hC0
  · unfold RL; rw [e (c := 1) (by decide), e (c := 8) (by decide), e (c := 10) (by decide), e (c := 20) (by decide), e (c := 18) (by decide), e (c := 23) (by decide), v2, v15]; refine ⟨hL.1, fun j hj => ?_, hL.2.2.1, hL.2.2.2.1, fun k1 hk1 => ?_, hL.2.2.2.2.2⟩
    · unfold va_up; split
      · omega
      · exact hL.2.1 j (by omega)
    · have := hL.2.2.2.2.1 k1 hk1; omega
  · intro k1 h1 h2
    rw [e (c := 3) (by decide)] at h2
    obtain ⟨r1, r2⟩ := hR k1 h1 h2
    have i18 := iv_18 hI0 k1
    refine ⟨?_, by rw [e (c := 18) (by decide), v2]; omega⟩
    exact r1.cg (by rw [e (c := 1) (by decide)]; exact Int.le_refl _) (by rw [e (c := 18) (by decide)]) (by rw [e (c := 20) (by decide)]) (fun j _ => by rw [e (c := 8) (by decide)]) (by rw [v15]; unfold va_up; rw [if_neg (by omega)]) (fun i _ => by rw [e (c := 21) (by decide), e (c := 22) (by decide)]; exact ⟨rfl, rfl⟩) (fun i _ => by rw [e (c := 23) (by decide)]) (fun i _ => by rw [e (c := 24) (by decide)]) (fun i _ => by rw [e (c := 41) (by decide), e (c := 42) (by decide)]; exact ⟨rfl, rfl⟩) hI0
theorem km_pc {S T : St} (h : S 1 0 = T 25 1) (hI : Inv S) (a b n w : Int) : kmP T a b n w = kPc S a b n w := by
  have i1 := iv_1 hI 0
  unfold kmP kPc
  rw [← h]
  by_cases c : wn a 0 7 = true ∧ wn b 0 7 = true ∧ ¬ a = b ∧ wn n 1 100 = true ∧ wn w 1 100 = true
  · rw [if_pos c, if_pos c]
    by_cases c2 : S 1 0 = 12
    · rw [if_pos c2, if_neg (by omega)]
    · rw [if_neg c2, if_pos (by omega)]
  · rw [if_neg c, if_neg c]
theorem e_piece {S : St} (h : Rel S) {a b n w : Int} (hk : kPc S a b n w = 0) {T : St} (hT : Sm (pAdd S a b n w) T) : Inv T ∧ Rel (mAdd (s_up T 25 0 0) a b n w) := by
  have i1 := iv_1 h.1 0
  have hb : (0 ≤ a ∧ a ≤ 7) ∧ (0 ≤ b ∧ b ≤ 7) ∧ (1 ≤ n ∧ n ≤ 100) ∧ (1 ≤ w ∧ w ≤ 100) ∧ S 1 0 < 12 := by
    unfold kPc at hk
    split at hk
    · rename_i c
      split at hk
      · rename_i c2
        exact ⟨wn_t c.1, wn_t c.2.1, wn_t c.2.2.2.1, wn_t c.2.2.2.2, c2⟩
      · omega
    · omega
  obtain ⟨hI0, hA0, hB, hC0, hL, hR⟩ := h
  have hIc : Inv (pAdd S a b n w) := Inv.up (q := 1) (Inv.up (q := 10) (Inv.up (q := 9) (Inv.up (q := 8) (Inv.up (q := 7) (Inv.up (q := 6) hI0 (by omega) (show _ ≤ (7 : Int) by omega)) (by omega) (show _ ≤ (7 : Int) by omega)) (by omega) (show _ ≤ (100 : Int) by omega)) (by omega) (show _ ≤ (100 : Int) by omega)) (by decide) (show (100 : Int) ≤ (100 : Int) by omega)) (by omega) (show _ ≤ (12 : Int) by omega)
  have hIT := hT.inv hIc
  refine ⟨hIT, ?_⟩
  have tc : ∀ {c : Nat}, (c ≠ 44 ∧ c ≠ 1 ∧ c ≠ 6 ∧ c ≠ 7 ∧ c ≠ 8 ∧ c ≠ 9 ∧ c ≠ 10) → T c = S c := fun h => by rw [hT _ h.1]; unfold pAdd; rw [s_up_cell h.2.1, s_up_cell h.2.2.2.2.2.2, s_up_cell h.2.2.2.2.2.1, s_up_cell h.2.2.2.2.1, s_up_cell h.2.2.2.1, s_up_cell h.2.2.1]
  have p0 : s_up T 25 0 0 25 1 = S 1 0 := by rw [s_up_ne (by decide), tc (c := 25) (by decide), hA0.1]
  have ht : ∀ {c : Nat}, (c ≠ 25 ∧ c ≠ 26 ∧ c ≠ 27 ∧ c ≠ 28 ∧ c ≠ 29 ∧ c ≠ 30) → mAdd (s_up T 25 0 0) a b n w c = T c := fun h => by unfold mAdd; rw [s_up_cell h.1, s_up_cell h.2.2.2.2.2, s_up_cell h.2.2.2.2.1, s_up_cell h.2.2.2.1, s_up_cell h.2.2.1, s_up_cell h.2.1, s_up_cell h.1]
  have hI : Inv (mAdd (s_up T 25 0 0) a b n w) := by
    have a0 := Inv.up (q := 25) (i := 0) (x := 0) hIT (by decide) (show (0 : Int) ≤ 2 by decide)
    exact Inv.up (q := 25) (i := 1) (Inv.up (q := 30) (Inv.up (q := 29) (Inv.up (q := 28) (Inv.up (q := 27) (Inv.up (q := 26) a0 (by omega) (show _ ≤ (7 : Int) by omega)) (by omega) (show _ ≤ (7 : Int) by omega)) (by omega) (show _ ≤ (100 : Int) by omega)) (by omega) (show _ ≤ (100 : Int) by omega)) (by decide) (show (100 : Int) ≤ (100 : Int) by omega)) (by omega) (show _ ≤ (12 : Int) by omega)
  have e : ∀ {c : Nat}, (c ≠ 44 ∧ c ≠ 1 ∧ c ≠ 6 ∧ c ≠ 7 ∧ c ≠ 8 ∧ c ≠ 9 ∧ c ≠ 10 ∧ c ≠ 25 ∧ c ≠ 26 ∧ c ≠ 27 ∧ c ≠ 28 ∧ c ≠ 29 ∧ c ≠ 30) → mAdd (s_up T 25 0 0) a b n w c = S c := fun h => by rw [ht ⟨h.2.2.2.2.2.2.2.1, h.2.2.2.2.2.2.2.2.1, h.2.2.2.2.2.2.2.2.2.1, h.2.2.2.2.2.2.2.2.2.2.1, h.2.2.2.2.2.2.2.2.2.2.2.1, h.2.2.2.2.2.2.2.2.2.2.2.2⟩, tc ⟨h.1, h.2.1, h.2.2.1, h.2.2.2.1, h.2.2.2.2.1, h.2.2.2.2.2.1, h.2.2.2.2.2.2.1⟩]
  have u : ∀ j, j ≠ 0 → j ≠ 1 → mAdd (s_up T 25 0 0) a b n w 25 j = S 25 j := fun j hj h10 => by unfold mAdd; rw [s_up_ne h10, s_up_cell (by decide), s_up_cell (by decide), s_up_cell (by decide), s_up_cell (by decide), s_up_cell (by decide), s_up_ne hj, tc (c := 25) (by decide)]
  have u1 : mAdd (s_up T 25 0 0) a b n w 25 1 = S 1 0 + 1 := by unfold mAdd; rw [s_up_self, p0]
  have v1 : mAdd (s_up T 25 0 0) a b n w 1 0 = S 1 0 + 1 := by rw [ht (by decide), hT 1 (by decide)]; unfold pAdd; rw [s_up_self]
  have v6 : mAdd (s_up T 25 0 0) a b n w 6 = va_up (S 6) (S 1 0).toNat a := by rw [ht (by decide), hT 6 (by decide)]; unfold pAdd; rw [s_up_cell (by decide), s_up_cell (by decide), s_up_cell (by decide), s_up_cell (by decide), s_up_cell (by decide), s_up_same]
  have v7 : mAdd (s_up T 25 0 0) a b n w 7 = va_up (S 7) (S 1 0).toNat b := by rw [ht (by decide), hT 7 (by decide)]; unfold pAdd; rw [s_up_cell (by decide), s_up_cell (by decide), s_up_cell (by decide), s_up_cell (by decide), s_up_same, s_up_cell (by decide)]
  have v8 : mAdd (s_up T 25 0 0) a b n w 8 = va_up (S 8) (S 1 0).toNat n := by rw [ht (by decide), hT 8 (by decide)]; unfold pAdd; rw [s_up_cell (by decide), s_up_cell (by decide), s_up_cell (by decide), s_up_same, s_up_cell (by decide), s_up_cell (by decide)]
  have v9 : mAdd (s_up T 25 0 0) a b n w 9 = va_up (S 9) (S 1 0).toNat w := by rw [ht (by decide), hT 9 (by decide)]; unfold pAdd; rw [s_up_cell (by decide), s_up_cell (by decide), s_up_same, s_up_cell (by decide), s_up_cell (by decide), s_up_cell (by decide)]
  have v10 : mAdd (s_up T 25 0 0) a b n w 10 = va_up (S 10) (5 * S 1 0 + 2).toNat 100 := by rw [ht (by decide), hT 10 (by decide)]; unfold pAdd; rw [s_up_cell (by decide), s_up_same, s_up_cell (by decide), s_up_cell (by decide), s_up_cell (by decide), s_up_cell (by decide), show S 1 0 * 5 + 2 = 5 * S 1 0 + 2 by omega]
  have v26 : mAdd (s_up T 25 0 0) a b n w 26 = va_up (S 26) (S 1 0).toNat a := by unfold mAdd; rw [p0, s_up_cell (by decide), s_up_cell (by decide), s_up_cell (by decide), s_up_cell (by decide), s_up_cell (by decide), s_up_same, s_up_cell (by decide), tc (c := 26) (by decide)]
  have v27 : mAdd (s_up T 25 0 0) a b n w 27 = va_up (S 27) (S 1 0).toNat b := by unfold mAdd; rw [p0, s_up_cell (by decide), s_up_cell (by decide), s_up_cell (by decide), s_up_cell (by decide), s_up_same, s_up_cell (by decide), s_up_cell (by decide), tc (c := 27) (by decide)]
  have v28 : mAdd (s_up T 25 0 0) a b n w 28 = va_up (S 28) (S 1 0).toNat n := by unfold mAdd; rw [p0, s_up_cell (by decide), s_up_cell (by decide), s_up_cell (by decide), s_up_same, s_up_cell (by decide), s_up_cell (by decide), s_up_cell (by decide), tc (c := 28) (by decide)]
  have v29 : mAdd (s_up T 25 0 0) a b n w 29 = va_up (S 29) (S 1 0).toNat w := by unfold mAdd; rw [p0, s_up_cell (by decide), s_up_cell (by decide), s_up_same, s_up_cell (by decide), s_up_cell (by decide), s_up_cell (by decide), s_up_cell (by decide), tc (c := 29) (by decide)]
  have v30 : mAdd (s_up T 25 0 0) a b n w 30 = va_up (S 30) (5 * S 1 0 + 2).toNat 100 := by unfold mAdd; rw [p0, s_up_cell (by decide), s_up_same, s_up_cell (by decide), s_up_cell (by decide), s_up_cell (by decide), s_up_cell (by decide), s_up_cell (by decide), tc (c := 30) (by decide)]
  refine ⟨hI, ?_, ?_, ?_, ?_, ?_⟩
  · unfold RA; rw [e (c := 2) (by decide), e (c := 3) (by decide), e (c := 0) (by decide), v1, u1, u 10 (by decide) (by decide), u 16 (by decide) (by decide), u 14 (by decide) (by decide), u 15 (by decide) (by decide)]; exact ⟨rfl, hA0.2⟩
  · unfold RB; rw [e (c := 11) (by decide), e (c := 12) (by decide), e (c := 13) (by decide), e (c := 14) (by decide), e (c := 15) (by decide), e (c := 16) (by decide), e (c := 31) (by decide), e (c := 32) (by decide), e (c := 33) (by decide), e (c := 34) (by decide), e (c := 35) (by decide), e (c := 36) (by decide), v6, v7, v8, v9, v10, v26, v27, v28, v29, v30, ← hB.1, ← hB.2.1, ← hB.2.2.1, ← hB.2.2.2.1, ← hB.2.2.2.2.1]; exact ⟨rfl, rfl, rfl, rfl, rfl, hB.2.2.2.2.2⟩
  · unfold RC; rw [e (c := 17) (by decide), e (c := 18) (by decide), e (c := 19) (by decide), e (c := 20) (by decide), e (c := 37) (by decide), e (c := 38) (by decide), e (c := 39) (by decide), e (c := 40) (by decide)]; exact hC0
  · unfold RL; rw [e (c := 2) (by decide), e (c := 15) (by decide), e (c := 20) (by decide), e (c := 18) (by decide), e (c := 23) (by decide), v1, v8, v10]; refine ⟨fun j hj => ?_, hL.2.1, fun q1 => ?_, fun q1 => ?_, hL.2.2.2.2⟩
    · unfold va_up; split
      · omega
      · exact hL.1 j (by omega)
    · unfold va_up; rw [if_neg (by omega)]; exact hL.2.2.1 q1
    · unfold va_up; rw [if_neg (by omega)]; exact hL.2.2.2.1 q1
  · intro k1 h1 h2
    rw [e (c := 3) (by decide)] at h2
    obtain ⟨r1, r2⟩ := hR k1 h1 h2
    refine ⟨?_, by rw [e (c := 18) (by decide), e (c := 2) (by decide)]; exact r2⟩
    exact r1.cg (by rw [v1]; omega) (by rw [e (c := 18) (by decide)]) (by rw [e (c := 20) (by decide)]) (fun j hj => by rw [v8]; unfold va_up; rw [if_neg (by omega)]) (by rw [e (c := 15) (by decide)]) (fun i _ => by rw [e (c := 21) (by decide), e (c := 22) (by decide)]; exact ⟨rfl, rfl⟩) (fun i _ => by rw [e (c := 23) (by decide)]) (fun i _ => by rw [e (c := 24) (by decide)]) (fun i _ => by rw [e (c := 41) (by decide), e (c := 42) (by decide)]; exact ⟨rfl, rfl⟩) hI0

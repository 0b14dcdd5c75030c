/-! call by call: routes, slots that are asked for -/
theorem Jn_self {C F : St} (h : ∀ c, c < 25 → F c = C c) : Jn C F = F := by
  funext c
  unfold Jn
  split
  · rename_i hc
    rw [h c hc]
  · rfl
theorem mb_of {S C T : St} (h : Rel S) (hC : ∀ c, 25 ≤ c → C c = S c) (hCI : Inv C) (hT : Sm C T) : Mb S (s_up T 25 0 0) := by
  refine ⟨Inv.up (q := 25) (hT.inv hCI) (by decide) (show (0 : Int) ≤ 2 by decide), fun c h1 h2 => ?_, fun j hj => ?_⟩
  · rw [s_up_cell (by omega), hT c (by omega), hC c (by omega)]
  · rw [s_up_ne hj, hT 25 (by decide), hC 25 (by decide)]
theorem mLy_lo {M : St} (sh a b : Int) {c : Nat} (h : c < 25) : (mLy M sh a b).1 c = M c := by
  rw [mLy_ne _ _ _ _ (by omega) (by omega) (by omega), mL0_ne _ _ _ (by omega) (by omega) (by omega)]
theorem pRt_hi (S : St) (sh a b : Int) {c : Nat} (h : 25 ≤ c) : (pRt S sh a b).1 c = S c := pRt_ne _ _ _ _ (by omega) (by omega) (by omega) (by omega) (by omega) (by omega) (by omega) (by omega)
theorem voy_b {S : St} {sh a b : Int} (h : voy S sh a b = true) : (0 ≤ sh ∧ sh < S 2 0) ∧ (0 ≤ a ∧ a ≤ 7) ∧ (0 ≤ b ∧ b ≤ 7) := by
  have := voy_t h
  omega
theorem km_ro {S T : St} (h : S 2 0 = T 25 10) (sh a b w : Int) : kmR T sh a b w = kRo S sh a b w := by
  unfold kmR kRo voy
  rw [← h]
  by_cases c : wn sh 0 (S 2 0 - 1) = true ∧ wn a 0 7 = true ∧ wn b 0 7 = true ∧ wn w 0 2 = true
  · rw [if_pos c, if_pos ⟨by simp [c.1, c.2.1, c.2.2.1], c.2.2.2⟩]
  · rw [if_neg c, if_neg (fun z => c (by
      have z1 := z.1
      rw [Bool.and_eq_true, Bool.and_eq_true] at z1
      exact ⟨z1.1, z1.2.1, z1.2.2, z.2⟩))]
theorem e_route {S : St} (h : Rel S) {sh a b w : Int} (hk : kRo S sh a b w = 0) {T : St} (hT : Sm (pRt S sh a b).1 T) : Inv T ∧ Rel (mLy (s_up T 25 0 0) sh a b).1 ∧ mRo (s_up T 25 0 0) sh a b w = rou S sh a b w := by
  have hv : voy S sh a b = true := by
    unfold kRo at hk
    split at hk
    · rename_i c; exact c.1
    · omega
  obtain ⟨hsh, ha, hb⟩ := voy_b hv
  have i2 := iv_2 h.1 0
  have hCI := pRt_I b h.1 (sh := sh) (a := a) (by omega) ha (h.2.2.2.2.1.2.1 sh.toNat (by omega))
  have hM := mb_of h (fun c hc => pRt_hi S sh a b hc) hCI hT
  obtain ⟨p1, p2, p3, p4, p5, p6⟩ := plan_rel h hM hsh ha hb
  have hJ : Jn (pRt S sh a b).1 (mLy (s_up T 25 0 0) sh a b).1 = (mLy (s_up T 25 0 0) sh a b).1 := Jn_self (fun c hc => by rw [mLy_lo sh a b hc, s_up_cell (by omega), hT c (by omega)])
  rw [hJ] at p1
  refine ⟨hT.inv hCI, p1, ?_⟩
  unfold mRo rou
  rcases p6 with ⟨q1, q2⟩ | ⟨q1, q2, q3, q4, q5, q6⟩
  · rw [if_pos q2, if_pos q1]
  · rw [if_neg (show ¬ (mLy (s_up T 25 0 0) sh a b).2 = false by rw [q2]; decide), if_neg (show ¬ (pRt S sh a b).2 = 0 by rw [q1]; decide), q4, ← q6, ← q5]
    rfl
/-- the plan's beginning set in both -/
theorem beg_rel {C M : St} (h : Rel (Jn C M)) {t : Int} (ht : 0 ≤ t ∧ t ≤ 100000) : Rel (Jn (s_up C 19 0 t) (s_up M 38 0 t)) := by
  obtain ⟨hI0, hA, hB, hC, hL, hR⟩ := h
  have e : ∀ {c : Nat}, (c ≠ 19 ∧ c ≠ 38) → Jn (s_up C 19 0 t) (s_up M 38 0 t) c = Jn C M c := by
    intro c hc
    unfold Jn
    rw [s_up_cell hc.1, s_up_cell hc.2]
  have e19 : Jn (s_up C 19 0 t) (s_up M 38 0 t) 19 = va_up (Jn C M 19) 0 t := by rw [J_lo (by decide), J_lo (by decide), s_up_same]
  have e38 : Jn (s_up C 19 0 t) (s_up M 38 0 t) 38 = va_up (Jn C M 38) 0 t := by rw [J_hi (by decide), J_hi (by decide), s_up_same]
  refine ⟨?_, ?_, ?_, ?_, ?_, ?_⟩
  · intro q j hq
    by_cases q19 : q = 19
    · subst q19
      rw [e19]
      unfold va_up
      split
      · exact ⟨ht.1, ht.2⟩
      · exact hI0 19 j hq
    · by_cases q38 : q = 38
      · subst q38
        rw [e38]
        unfold va_up
        split
        · exact ⟨ht.1, ht.2⟩
        · exact hI0 38 j hq
      · rw [e ⟨q19, q38⟩]; exact hI0 q j hq
  · unfold RA
    rw [e (c := 1) (by decide), e (c := 2) (by decide), e (c := 3) (by decide), e (c := 0) (by decide), e (c := 25) (by decide)]
    exact hA
  · unfold RB
    rw [e (c := 6) (by decide), e (c := 7) (by decide), e (c := 8) (by decide), e (c := 9) (by decide), e (c := 10) (by decide), e (c := 11) (by decide), e (c := 12) (by decide), e (c := 13) (by decide), e (c := 14) (by decide), e (c := 15) (by decide), e (c := 16) (by decide), e (c := 26) (by decide), e (c := 27) (by decide), e (c := 28) (by decide), e (c := 29) (by decide), e (c := 30) (by decide), e (c := 31) (by decide), e (c := 32) (by decide), e (c := 33) (by decide), e (c := 34) (by decide), e (c := 35) (by decide), e (c := 36) (by decide)]
    exact hB
  · unfold RC
    rw [e (c := 17) (by decide), e (c := 18) (by decide), e (c := 20) (by decide), e (c := 37) (by decide), e (c := 39) (by decide), e (c := 40) (by decide), e19, e38]
    refine ⟨hC.1, hC.2.1, fun k hk => ?_, hC.2.2.2⟩
    unfold va_up
    rw [if_neg hk, if_neg hk]
    exact hC.2.2.1 k hk
  · unfold RL
    rw [e (c := 1) (by decide), e (c := 2) (by decide), e (c := 8) (by decide), e (c := 15) (by decide), e (c := 10) (by decide), e (c := 20) (by decide), e (c := 18) (by decide), e (c := 23) (by decide)]
    exact hL
  · intro k h1 h2
    rw [e (c := 3) (by decide)] at h2
    obtain ⟨r1, r2⟩ := hR k h1 h2
    refine ⟨?_, by rw [e (c := 18) (by decide), e (c := 2) (by decide)]; exact r2⟩
    unfold Rw tTm
    rw [e (c := 1) (by decide), e (c := 8) (by decide), e (c := 15) (by decide), e (c := 18) (by decide), e (c := 20) (by decide), e (c := 21) (by decide), e (c := 22) (by decide), e (c := 23) (by decide), e (c := 24) (by decide), e (c := 41) (by decide), e (c := 42) (by decide)]
    exact r1
theorem beg_rw {C M : St} {k : Nat} (h : Rw (Jn C M) k) (j : Nat) (t u : Int) : Rw (Jn (s_up C 19 j t) (s_up M 38 j u)) k := by
  have e : ∀ {c : Nat}, (c ≠ 19 ∧ c ≠ 38) → Jn (s_up C 19 j t) (s_up M 38 j u) c = Jn C M c := by
    intro c hc
    unfold Jn
    rw [s_up_cell hc.1, s_up_cell hc.2]
  unfold Rw tTm
  rw [e (c := 1) (by decide), e (c := 8) (by decide), e (c := 15) (by decide), e (c := 18) (by decide), e (c := 20) (by decide), e (c := 21) (by decide), e (c := 22) (by decide), e (c := 23) (by decide), e (c := 24) (by decide), e (c := 41) (by decide), e (c := 42) (by decide)]
  exact h
theorem beg_ry {C M : St} (h : Rel (Jn C M)) (h0 : Rw (Jn C M) 0) (hs : 1 ≤ C 15 (C 18 0).toNat) {t : Int} (ht : 0 ≤ t ∧ t ≤ 100000) : Ry (Jn (s_up C 19 0 t) (s_up M 38 0 t)) 0 := by
  have hR := beg_rel h ht
  refine ⟨⟨hR.1, hR.2.1, hR.2.2.1, hR.2.2.2.1.2.1, hR.2.2.2.1.2.2.2, hR.2.2.2.1.1, hR.2.2.2.2.1, beg_rw h0 0 t t, ?_, ?_⟩, fun r h1 h2 => rel_rx hR h1 h2⟩
  · rw [J_lo (by decide), J_hi (by decide), s_up_self, s_up_self]
  · rw [J_lo (by decide), J_lo (by decide), s_up_cell (by decide), s_up_cell (by decide)]
    exact hs
theorem km_as {S T : St} (h2 : S 2 0 = T 25 10) (h6 : S 0 6 = T 25 15) (h3 : S 3 0 = T 25 16) (hI : Inv S) (sh a b t : Int) : kmA T sh a b t = kAs S sh a b t := by
  have i3 := iv_3 hI 0
  unfold kmA kAs mPs voy
  rw [← h2, ← h6, ← h3]
  by_cases c : wn sh 0 (S 2 0 - 1) = true ∧ wn a 0 7 = true ∧ wn b 0 7 = true ∧ wn t (S 0 6) 100000 = true
  · rw [if_pos (show (wn sh 0 (S 2 0 - 1) && (wn a 0 7 && (wn b 0 7 && wn t (S 0 6) 100000))) = true by simp [c.1, c.2.1, c.2.2.1, c.2.2.2]), if_pos (show (wn sh 0 (S 2 0 - 1) && (wn a 0 7 && wn b 0 7)) = true ∧ wn t (S 0 6) 100000 = true from ⟨by simp [c.1, c.2.1, c.2.2.1], c.2.2.2⟩)]
    by_cases c2 : S 3 0 = 30
    · rw [if_pos c2, if_neg (by omega)]
    · rw [if_neg c2, if_pos (by omega)]
  · rw [if_neg (fun z => c (by
      rw [Bool.and_eq_true, Bool.and_eq_true, Bool.and_eq_true] at z
      exact ⟨z.1, z.2.1, z.2.2.1, z.2.2.2⟩)), if_neg (fun z => c (by
      have z1 := z.1
      rw [Bool.and_eq_true, Bool.and_eq_true] at z1
      exact ⟨z1.1, z1.2.1, z1.2.2, z.2⟩))]
/-! what giving a slot leaves -/
theorem gve_c (S : St) {c : Nat} (h : c ≠ 3 ∧ c ≠ 17 ∧ c ≠ 18 ∧ c ≠ 19 ∧ c ≠ 20) : gve S c = S c := by
  unfold gve gvd gvc gvb gva
  rw [s_up_cell h.2.2.2.2, s_up_cell h.2.2.2.1, s_up_cell h.2.2.1, s_up_cell h.2.1, s_up_cell h.1]
theorem gve_3 (S : St) : gve S 3 0 = S 3 0 + 1 := by
  unfold gve gvd gvc gvb
  rw [s_up_cell (by decide), s_up_cell (by decide), s_up_cell (by decide), s_up_cell (by decide), gva_3]
theorem gve_17 (S : St) : gve S 17 = va_up (S 17) (S 3 0 + 1).toNat 1 := by
  unfold gve gvd gvc gvb
  rw [s_up_cell (by decide), s_up_cell (by decide), s_up_cell (by decide), s_up_same, gva_3]
  unfold gva
  rw [s_up_cell (by decide)]
theorem gvb_c (S : St) {c : Nat} (h : c ≠ 3 ∧ c ≠ 17) : gvb S c = S c := by
  unfold gvb gva
  rw [s_up_cell h.2, s_up_cell h.1]
theorem gve_18 (S : St) : gve S 18 = va_up (S 18) (S 3 0 + 1).toNat (S 18 0) := by
  unfold gve gvd gvc
  rw [s_up_cell (by decide), s_up_cell (by decide), s_up_same, gva_3, gvb_c S (c := 18) (by decide)]
theorem gve_19 (S : St) : gve S 19 = va_up (S 19) (S 3 0 + 1).toNat (S 19 0) := by
  unfold gve gvd gvc
  rw [s_up_cell (by decide), s_up_same, gva_3, s_up_cell (by decide), gvb_c S (c := 19) (by decide)]
theorem gve_20 (S : St) : gve S 20 = va_up (S 20) (S 3 0 + 1).toNat (S 20 0) := by
  unfold gve gvd gvc
  rw [s_up_same, gva_3, s_up_cell (by decide), s_up_cell (by decide), gvb_c S (c := 20) (by decide)]
theorem gvf_c (S : St) (k : Nat) {c : Nat} (h : c ≠ 21 ∧ c ≠ 22 ∧ c ≠ 23) : gvf S k c = gve S c := by
  induction k with
  | zero => rfl
  | succ k ih =>
    show gs3 (gvf S k) (gva S 3 0) (k : Int) c = _
    unfold gs3 gs2 gs1
    rw [s_up_cell h.2.2, s_up_cell h.2.1, s_up_cell h.1, ih]
theorem gvf_21 (S : St) (n : Nat) (hn : gva S 3 0 = (n : Int)) (h1 : 1 ≤ n) (k : Nat) (hk : k ≤ 7) (j : Nat) : gvf S k 21 j = if 7 * n ≤ j ∧ j < 7 * n + k then S 21 (j - 7 * n) else S 21 j := by
  induction k generalizing j with
  | zero => rw [if_neg (by omega)]; show gve S 21 j = _; rw [gve_c S (by decide)]
  | succ k ih =>
    show gs3 (gvf S k) (gva S 3 0) (k : Int) 21 j = _
    unfold gs3 gs2 gs1
    rw [s_up_cell (by decide), s_up_cell (by decide), s_up_same, hn]
    unfold va_up
    by_cases e : j = ((n : Int) * 7 + (k : Int)).toNat
    · rw [if_pos e, if_pos (by omega)]
      unfold pOf
      rw [ih (by omega), if_neg (by omega)]
      congr 1
      omega
    · rw [if_neg e, ih (by omega)]
      by_cases c : 7 * n ≤ j ∧ j < 7 * n + k
      · rw [if_pos c, if_pos (by omega)]
      · rw [if_neg c, if_neg (by omega)]
theorem gvf_22 (S : St) (n : Nat) (hn : gva S 3 0 = (n : Int)) (h1 : 1 ≤ n) (k : Nat) (hk : k ≤ 7) (j : Nat) : gvf S k 22 j = if 7 * n ≤ j ∧ j < 7 * n + k then S 22 (j - 7 * n) else S 22 j := by
  induction k generalizing j with
  | zero => rw [if_neg (by omega)]; show gve S 22 j = _; rw [gve_c S (by decide)]
  | succ k ih =>
    show gs3 (gvf S k) (gva S 3 0) (k : Int) 22 j = _
    unfold gs3 gs2
    rw [s_up_cell (by decide), s_up_same, hn]
    unfold gs1
    rw [s_up_cell (by decide)]
    unfold va_up
    by_cases e : j = ((n : Int) * 7 + (k : Int)).toNat
    · rw [if_pos e, if_pos (by omega)]
      unfold fOf
      rw [s_up_cell (by decide), ih (by omega), if_neg (by omega)]
      congr 1
      omega
    · rw [if_neg e, ih (by omega)]
      by_cases c : 7 * n ≤ j ∧ j < 7 * n + k
      · rw [if_pos c, if_pos (by omega)]
      · rw [if_neg c, if_neg (by omega)]
theorem gvf_23 (S : St) (n : Nat) (hn : gva S 3 0 = (n : Int)) (h1 : 1 ≤ n) (k : Nat) (hk : k ≤ 7) (j : Nat) : gvf S k 23 j = if 8 * n < j ∧ j < 8 * n + k + 1 then S 23 (j - 8 * n) else S 23 j := by
  induction k generalizing j with
  | zero => rw [if_neg (by omega)]; show gve S 23 j = _; rw [gve_c S (by decide)]
  | succ k ih =>
    show gs3 (gvf S k) (gva S 3 0) (k : Int) 23 j = _
    unfold gs3
    rw [s_up_same, hn]
    have e0 : gs2 (gvf S k) (n : Int) (k : Int) 23 = gvf S k 23 := by unfold gs2 gs1; rw [s_up_cell (by decide), s_up_cell (by decide)]
    rw [e0]
    unfold va_up
    by_cases e : j = ((n : Int) * 8 + (k : Int) + 1).toNat
    · rw [if_pos e, if_pos (by omega), ih (by omega), if_neg (by omega)]
      congr 1
      omega
    · rw [if_neg e, ih (by omega)]
      by_cases c : 8 * n < j ∧ j < 8 * n + k + 1
      · rw [if_pos c, if_pos (by omega)]
      · rw [if_neg c, if_neg (by omega)]
theorem gvg_c (S : St) (k : Nat) {c : Nat} (h : c ≠ 24) : gvg S k c = gvf S (gve S 20 0).toNat c := by
  induction k with
  | zero => rfl
  | succ k ih =>
    show s_up (gvg S k) 24 _ _ c = _
    rw [s_up_cell h, ih]
theorem gvg_24 (S : St) (n : Nat) (hn : gva S 3 0 = (n : Int)) (h1 : 1 ≤ n) (k : Nat) (hk : k ≤ 12) (j : Nat) : gvg S k 24 j = if 12 * n ≤ j ∧ j < 12 * n + k then S 24 (j - 12 * n) else S 24 j := by
  induction k generalizing j with
  | zero => rw [if_neg (by omega)]; show gvf S _ 24 j = _; rw [gvf_c S _ (by decide), gve_c S (by decide)]
  | succ k ih =>
    show s_up (gvg S k) 24 (gva S 3 0 * 12 + (k : Int)).toNat (gvg S k 24 (0 + (k : Int)).toNat) 24 j = _
    rw [s_up_same, hn]
    unfold va_up
    by_cases e : j = ((n : Int) * 12 + (k : Int)).toNat
    · rw [if_pos e, if_pos (by omega), ih (by omega), if_neg (by omega)]
      congr 1
      omega
    · rw [if_neg e, ih (by omega)]
      by_cases c : 12 * n ≤ j ∧ j < 12 * n + k
      · rw [if_pos c, if_pos (by omega)]
      · rw [if_neg c, if_neg (by omega)]
theorem mCp_41 (U : St) (sh t : Int) (n : Nat) (hn : U 25 16 + 1 = (n : Int)) (h1 : 1 ≤ n) (k : Nat) (hk : k ≤ 7) (j : Nat) : mCp U sh t k 41 j = if 8 * n ≤ j ∧ j < 8 * n + k then U 41 (j - 8 * n) else U 41 j := by
  have e0 : mG5 U sh t 41 = U 41 := by unfold mG5; rw [s_up_cell (by decide), s_up_cell (by decide), s_up_cell (by decide), s_up_cell (by decide), s_up_cell (by decide)]
  induction k generalizing j with
  | zero => rw [if_neg (by omega)]; show mG5 U sh t 41 j = _; rw [e0]
  | succ k ih =>
    rw [mCp_s, s_up_cell (by decide), s_up_same, hn]
    unfold va_up
    by_cases e : j = (8 * (n : Int) + (k : Int)).toNat
    · rw [if_pos e, if_pos (by omega), ih (by omega), if_neg (by omega)]
      congr 1
      omega
    · rw [if_neg e, ih (by omega)]
      by_cases c : 8 * n ≤ j ∧ j < 8 * n + k
      · rw [if_pos c, if_pos (by omega)]
      · rw [if_neg c, if_neg (by omega)]
theorem mCp_42 (U : St) (sh t : Int) (n : Nat) (hn : U 25 16 + 1 = (n : Int)) (h1 : 1 ≤ n) (k : Nat) (hk : k ≤ 7) (j : Nat) : mCp U sh t k 42 j = if 8 * n ≤ j ∧ j < 8 * n + k then U 42 (j - 8 * n) else U 42 j := by
  have e0 : mG5 U sh t 42 = U 42 := by unfold mG5; rw [s_up_cell (by decide), s_up_cell (by decide), s_up_cell (by decide), s_up_cell (by decide), s_up_cell (by decide)]
  induction k generalizing j with
  | zero => rw [if_neg (by omega)]; show mG5 U sh t 42 j = _; rw [e0]
  | succ k ih =>
    rw [mCp_s, s_up_same, hn, s_up_cell (by decide)]
    unfold va_up
    by_cases e : j = (8 * (n : Int) + (k : Int)).toNat
    · rw [if_pos e, if_pos (by omega), ih (by omega), if_neg (by omega)]
      congr 1
      omega
    · rw [if_neg e, ih (by omega)]
      by_cases c : 8 * n ≤ j ∧ j < 8 * n + k
      · rw [if_pos c, if_pos (by omega)]
      · rw [if_neg c, if_neg (by omega)]

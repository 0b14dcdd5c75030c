/-! a slot is given in both -/
theorem mG5_c (U : St) (sh t : Int) {c : Nat} (h : c ≠ 25 ∧ c ≠ 37 ∧ c ≠ 38 ∧ c ≠ 39 ∧ c ≠ 40) : mG5 U sh t c = U c := by
  unfold mG5
  rw [s_up_cell h.2.2.2.2, s_up_cell h.2.2.2.1, s_up_cell h.2.2.1, s_up_cell h.2.1, s_up_cell h.1]
theorem give_rel {C M : St} (h : Rel (Jn C M)) (h0 : Rw (Jn C M) 0) (hC0 : Inv C) (hM0 : Inv M) {sh t : Int} (hsh : C 18 0 = sh) (ht : C 19 0 = t) (hs2 : 0 ≤ sh ∧ sh < C 2 0) (htb : 0 ≤ t ∧ t ≤ 100000) (hsl : C 3 0 < 30) : Rel (Jn (gvg C 12) (mCp M sh t (M 40 0).toNat)) ∧ gva C 3 0 = mCp M sh t (M 40 0).toNat 25 16 := by
  obtain ⟨hI, hA, hB, hC, hL, hR⟩ := h
  have jl : ∀ {c : Nat}, c < 25 → Jn C M c = C c := fun h => J_lo h
  have jh : ∀ {c : Nat}, ¬ c < 25 → Jn C M c = M c := fun h => J_hi h
  have i3 := iv_3 hC0 0
  have i20 := iv_20 hC0 0
  have i2 := iv_2 hC0 0
  have hA3 : C 3 0 = M 25 16 := by have := hA.2.2.1; rwa [jl (by decide), jh (by decide)] at this
  have hNN : C 20 0 = M 40 0 := by have := hC.2.2.2; rw [jl (by decide), jh (by decide)] at this; rw [this]
  have hn : gva C 3 0 = (((C 3 0).toNat + 1 : Nat) : Int) := by rw [gva_3]; omega
  have hn2 : M 25 16 + 1 = (((C 3 0).toNat + 1 : Nat) : Int) := by rw [← hA3]; omega
  generalize hnn : (C 3 0).toNat + 1 = n at hn hn2
  have h1n : 1 ≤ n := by omega
  have hcn : C 3 0 + 1 = (n : Int) := by omega
  have hct : (C 3 0 + 1).toNat = n := by omega
  have hmt : (M 25 16 + 1).toNat = n := by omega
  have hge : (gve C 20 0).toNat = (C 20 0).toNat := by rw [gve_20, hct]; unfold va_up; rw [if_neg (by omega)]
  -- the class's cells
  have dl : ∀ {c : Nat}, (c < 25 ∧ c ≠ 3 ∧ c ≠ 17 ∧ c ≠ 18 ∧ c ≠ 19 ∧ c ≠ 20 ∧ c ≠ 21 ∧ c ≠ 22 ∧ c ≠ 23 ∧ c ≠ 24) → Jn (gvg C 12) (mCp M sh t (M 40 0).toNat) c = Jn C M c := by
    intro c hc
    rw [J_lo hc.1, J_lo hc.1, gvg_c C 12 hc.2.2.2.2.2.2.2.2.2, gvf_c C _ ⟨hc.2.2.2.2.2.2.1, hc.2.2.2.2.2.2.2.1, hc.2.2.2.2.2.2.2.2.1⟩, gve_c C ⟨hc.2.1, hc.2.2.1, hc.2.2.2.1, hc.2.2.2.2.1, hc.2.2.2.2.2.1⟩]
  have d3 : Jn (gvg C 12) (mCp M sh t (M 40 0).toNat) 3 0 = (n : Int) := by rw [J_lo (by decide), gvg_c C 12 (by decide), gvf_c C _ (by decide), gve_3]; exact hcn
  have d17 : Jn (gvg C 12) (mCp M sh t (M 40 0).toNat) 17 = va_up (Jn C M 17) n 1 := by rw [J_lo (by decide), jl (by decide), gvg_c C 12 (by decide), gvf_c C _ (by decide), gve_17, hct]
  have d18 : Jn (gvg C 12) (mCp M sh t (M 40 0).toNat) 18 = va_up (Jn C M 18) n sh := by rw [J_lo (by decide), jl (by decide), gvg_c C 12 (by decide), gvf_c C _ (by decide), gve_18, hct, hsh]
  have d19 : Jn (gvg C 12) (mCp M sh t (M 40 0).toNat) 19 = va_up (Jn C M 19) n t := by rw [J_lo (by decide), jl (by decide), gvg_c C 12 (by decide), gvf_c C _ (by decide), gve_19, hct, ht]
  have d20 : Jn (gvg C 12) (mCp M sh t (M 40 0).toNat) 20 = va_up (Jn C M 20) n (C 20 0) := by rw [J_lo (by decide), jl (by decide), gvg_c C 12 (by decide), gvf_c C _ (by decide), gve_20, hct]
  have d21 : ∀ j, Jn (gvg C 12) (mCp M sh t (M 40 0).toNat) 21 j = if 7 * n ≤ j ∧ j < 7 * n + (C 20 0).toNat then Jn C M 21 (j - 7 * n) else Jn C M 21 j := fun j => by rw [J_lo (by decide), jl (by decide), gvg_c C 12 (by decide), hge, gvf_21 C n hn h1n _ (by omega)]
  have d22 : ∀ j, Jn (gvg C 12) (mCp M sh t (M 40 0).toNat) 22 j = if 7 * n ≤ j ∧ j < 7 * n + (C 20 0).toNat then Jn C M 22 (j - 7 * n) else Jn C M 22 j := fun j => by rw [J_lo (by decide), jl (by decide), gvg_c C 12 (by decide), hge, gvf_22 C n hn h1n _ (by omega)]
  have d23 : ∀ j, Jn (gvg C 12) (mCp M sh t (M 40 0).toNat) 23 j = if 8 * n < j ∧ j < 8 * n + (C 20 0).toNat + 1 then Jn C M 23 (j - 8 * n) else Jn C M 23 j := fun j => by rw [J_lo (by decide), jl (by decide), gvg_c C 12 (by decide), hge, gvf_23 C n hn h1n _ (by omega)]
  have d24 : ∀ j, Jn (gvg C 12) (mCp M sh t (M 40 0).toNat) 24 j = if 12 * n ≤ j ∧ j < 12 * n + 12 then Jn C M 24 (j - 12 * n) else Jn C M 24 j := fun j => by rw [J_lo (by decide), jl (by decide), gvg_24 C n hn h1n 12 (by omega)]
  -- the reference's cells
  have mh : ∀ {c : Nat}, (25 < c ∧ c ≠ 37 ∧ c ≠ 38 ∧ c ≠ 39 ∧ c ≠ 40 ∧ c ≠ 41 ∧ c ≠ 42) → Jn (gvg C 12) (mCp M sh t (M 40 0).toNat) c = Jn C M c := by
    intro c hc
    rw [J_hi (by omega), J_hi (by omega), mCp_ne _ _ _ _ hc.2.2.2.2.2.1 hc.2.2.2.2.2.2, mG5_c _ _ _ ⟨by omega, hc.2.1, hc.2.2.1, hc.2.2.2.1, hc.2.2.2.2.1⟩]
  have m25 : ∀ j, j ≠ 16 → Jn (gvg C 12) (mCp M sh t (M 40 0).toNat) 25 j = Jn C M 25 j := fun j hj => by
    rw [J_hi (by decide), jh (by decide), mCp_ne _ _ _ _ (by decide) (by decide)]
    unfold mG5
    rw [s_up_cell (by decide), s_up_cell (by decide), s_up_cell (by decide), s_up_cell (by decide), s_up_ne hj]
  have m16 : Jn (gvg C 12) (mCp M sh t (M 40 0).toNat) 25 16 = (n : Int) := by rw [J_hi (by decide), mCp_25]; exact hn2
  have m37 : Jn (gvg C 12) (mCp M sh t (M 40 0).toNat) 37 = va_up (Jn C M 37) n sh := by
    rw [J_hi (by decide), jh (by decide), mCp_ne _ _ _ _ (by decide) (by decide)]
    unfold mG5
    rw [hmt, s_up_cell (by decide), s_up_cell (by decide), s_up_cell (by decide), s_up_same, s_up_cell (by decide)]
  have m38 : Jn (gvg C 12) (mCp M sh t (M 40 0).toNat) 38 = va_up (Jn C M 38) n t := by
    rw [J_hi (by decide), jh (by decide), mCp_ne _ _ _ _ (by decide) (by decide)]
    unfold mG5
    rw [hmt, s_up_cell (by decide), s_up_cell (by decide), s_up_same, s_up_cell (by decide), s_up_cell (by decide)]
  have m39 : Jn (gvg C 12) (mCp M sh t (M 40 0).toNat) 39 = va_up (Jn C M 39) n 1 := by
    rw [J_hi (by decide), jh (by decide), mCp_ne _ _ _ _ (by decide) (by decide)]
    unfold mG5
    rw [hmt, s_up_cell (by decide), s_up_same, s_up_cell (by decide), s_up_cell (by decide), s_up_cell (by decide)]
  have m40 : Jn (gvg C 12) (mCp M sh t (M 40 0).toNat) 40 = va_up (Jn C M 40) n (C 20 0) := by
    rw [J_hi (by decide), jh (by decide), mCp_ne _ _ _ _ (by decide) (by decide)]
    unfold mG5
    rw [hmt, s_up_same, s_up_cell (by decide), s_up_cell (by decide), s_up_cell (by decide), s_up_cell (by decide), hNN]
  have m41 : ∀ j, Jn (gvg C 12) (mCp M sh t (M 40 0).toNat) 41 j = if 8 * n ≤ j ∧ j < 8 * n + (C 20 0).toNat then Jn C M 41 (j - 8 * n) else Jn C M 41 j := fun j => by rw [J_hi (by decide), jh (by decide), mCp_41 M sh t n hn2 h1n _ (by omega), hNN]
  have m42 : ∀ j, Jn (gvg C 12) (mCp M sh t (M 40 0).toNat) 42 j = if 8 * n ≤ j ∧ j < 8 * n + (C 20 0).toNat then Jn C M 42 (j - 8 * n) else Jn C M 42 j := fun j => by rw [J_hi (by decide), jh (by decide), mCp_42 M sh t n hn2 h1n _ (by omega), hNN]
  refine ⟨⟨?_, ?_, ?_, ?_, ?_, ?_⟩, ?_⟩
  · exact Jn_inv (gvg_I hC0 hsl 12) (mCp_I (mG5_I hM0 (by omega) htb (by omega)) _)
  · unfold RA
    rw [dl (c := 1) (by decide), dl (c := 2) (by decide), dl (c := 0) (by decide), d3, m16, m25 1 (by decide), m25 10 (by decide), m25 14 (by decide), m25 15 (by decide)]
    exact ⟨hA.1, hA.2.1, rfl, hA.2.2.2⟩
  · unfold RB
    rw [dl (c := 6) (by decide), dl (c := 7) (by decide), dl (c := 8) (by decide), dl (c := 9) (by decide), dl (c := 10) (by decide), dl (c := 11) (by decide), dl (c := 12) (by decide), dl (c := 13) (by decide), dl (c := 14) (by decide), dl (c := 15) (by decide), dl (c := 16) (by decide), mh (c := 26) (by decide), mh (c := 27) (by decide), mh (c := 28) (by decide), mh (c := 29) (by decide), mh (c := 30) (by decide), mh (c := 31) (by decide), mh (c := 32) (by decide), mh (c := 33) (by decide), mh (c := 34) (by decide), mh (c := 35) (by decide), mh (c := 36) (by decide)]
    exact hB
  · unfold RC
    rw [d17, d18, d19, d20, m37, m38, m39, m40, ← hC.1, ← hC.2.1, ← hC.2.2.2]
    refine ⟨rfl, rfl, fun k hk => ?_, rfl⟩
    unfold va_up
    split
    · rfl
    · exact hC.2.2.1 k hk
  · unfold RL
    rw [dl (c := 1) (by decide), dl (c := 2) (by decide), dl (c := 8) (by decide), dl (c := 15) (by decide), dl (c := 10) (by decide), d18, d20]
    refine ⟨hL.1, hL.2.1, hL.2.2.1, hL.2.2.2.1, fun k hk => ?_, fun k => ?_⟩
    · unfold va_up at hk ⊢
      split
      · rw [jl (by decide)]; exact hs2.2
      · rename_i e
        rw [if_neg e] at hk
        exact hL.2.2.2.2.1 k hk
    · rw [d23, if_neg (by omega)]
      exact hL.2.2.2.2.2 k
  · intro k h1 h2
    rw [d3] at h2
    by_cases e : k = n
    · subst e
      have e18 : Jn (gvg C 12) (mCp M sh t (M 40 0).toNat) 18 k = sh := by rw [d18]; unfold va_up; rw [if_pos rfl]
      have e20 : Jn (gvg C 12) (mCp M sh t (M 40 0).toNat) 20 k = C 20 0 := by rw [d20]; unfold va_up; rw [if_pos rfl]
      refine ⟨⟨?_, ?_, ?_⟩, by rw [e18, dl (c := 2) (by decide), jl (by decide)]; exact hs2.2⟩
      · rw [d23, if_neg (by omega)]
        exact hL.2.2.2.2.2 k
      · intro i hi
        rw [e20] at hi
        obtain ⟨r1, r2, r3, r4, r5⟩ := h0.2.1 i (by rw [jl (by decide)]; exact hi)
        rw [show 7 * 0 + i = i by omega] at r1 r2 r3 r4 r5
        have i21 := iv_21 hI i
        have f21 : Jn (gvg C 12) (mCp M sh t (M 40 0).toNat) 21 (7 * k + i) = Jn C M 21 i := by rw [d21, if_pos (by omega), show 7 * k + i - 7 * k = i by omega]
        rw [f21, d22, if_pos (by omega), show 7 * k + i - 7 * k = i by omega, m41, if_pos (by omega), m42, if_pos (by omega), show 8 * k + i - 8 * k = i by omega, d23 (8 * k + i + 1), if_pos (by omega), show 8 * k + i + 1 - 8 * k = i + 1 by omega, d24, if_pos (by omega), show 12 * k + (Jn C M 21 i).toNat - 12 * k = (Jn C M 21 i).toNat by omega, dl (c := 1) (by decide), e18]
        refine ⟨r1, r2, r3, ?_, by rw [show 12 * 0 + (Jn C M 21 i).toNat = (Jn C M 21 i).toNat by omega] at r5; exact r5⟩
        have et : tTm (Jn (gvg C 12) (mCp M sh t (M 40 0).toNat)) sh (Jn C M 21 i) = tTm (Jn C M) (Jn C M 18 0) (Jn C M 21 i) := by
          rw [jl (show 18 < 25 by decide), hsh]
          exact tTm_cg (dl (c := 8) (by decide)) (dl (c := 15) (by decide)) _ _
        rw [et, r4]
        congr 1
        rw [d23]
        by_cases z : i = 0
        · subst z
          rw [if_neg (by omega), Nat.add_zero, hL.2.2.2.2.2 k]
          exact hL.2.2.2.2.2 0
        · rw [if_pos (by omega), show 8 * k + i - 8 * k = i by omega]
      · intro q hq
        rw [d24, if_pos (by omega), show 12 * k + q - 12 * k = q by omega, e20]
        rcases h0.2.2 q hq with z | ⟨i, a1, a2, a3⟩
        · rw [show 12 * 0 + q = q by omega] at z
          exact Or.inl z
        · rw [show 12 * 0 + q = q by omega] at a2
          rw [jl (by decide)] at a1
          rw [show 7 * 0 + i = i by omega] at a3
          exact Or.inr ⟨i, a1, a2, by rw [d21, if_pos (by omega), show 7 * k + i - 7 * k = i by omega]; exact a3⟩
    · obtain ⟨r1, r2⟩ := hR k h1 (by rw [jl (by decide)]; omega)
      have e18 : Jn (gvg C 12) (mCp M sh t (M 40 0).toNat) 18 k = Jn C M 18 k := by rw [d18]; unfold va_up; rw [if_neg e]
      refine ⟨?_, by rw [e18, dl (c := 2) (by decide)]; exact r2⟩
      exact r1.cg (by rw [dl (c := 1) (by decide)]; exact Int.le_refl _) e18 (by rw [d20]; unfold va_up; rw [if_neg e]) (fun j _ => by rw [dl (c := 8) (by decide)]) (by rw [dl (c := 15) (by decide)]) (fun i _ => by rw [d21, if_neg (by omega), d22, if_neg (by omega)]; exact ⟨rfl, rfl⟩) (fun i _ => by rw [d23, if_neg (by omega)]) (fun i _ => by rw [d24, if_neg (by omega)]) (fun i _ => by rw [m41, if_neg (by omega), m42, if_neg (by omega)]; exact ⟨rfl, rfl⟩) hI
  · rw [mCp_25, hn2]; exact hn
theorem gvg_hi (S : St) {c : Nat} (h : 25 ≤ c) : gvg S 12 c = S c := by
  rw [gvg_c S 12 (by omega), gvf_c S _ ⟨by omega, by omega, by omega⟩, gve_c S ⟨by omega, by omega, by omega, by omega, by omega⟩]
theorem mCp_lo (U : St) (sh t : Int) (n : Nat) {c : Nat} (h : c < 25) : mCp U sh t n c = U c := by
  rw [mCp_ne _ _ _ _ (by omega) (by omega), mG5_c _ _ _ ⟨by omega, by omega, by omega, by omega, by omega⟩]
theorem e_ask {S : St} (h : Rel S) {sh a b t : Int} (hk : kAs S sh a b t = 0) {T : St} (hT : Sm (askS S sh a b t) T) : Inv T ∧ Rel (mAkS (s_up T 25 0 0) sh a b t) ∧ mAkR (s_up T 25 0 0) sh a b t = askR S sh a b t := by
  have i6 := iv_0 h.1 6
  have hv : voy S sh a b = true ∧ wn t (S 0 6) 100000 = true ∧ S 3 0 < 30 := by
    unfold kAs at hk
    split at hk
    · rename_i c
      split at hk
      · rename_i c2; exact ⟨c.1, c.2, c2⟩
      · omega
    · omega
  obtain ⟨hsh, ha, hb⟩ := voy_b hv.1
  have htw := wn_t hv.2.1
  have i2 := iv_2 h.1 0
  have hs := h.2.2.2.2.1.2.1 sh.toNat (by omega)
  have hC1 := pRt_I b h.1 (sh := sh) (a := a) (by omega) ha hs
  have hCb : Inv (s_up (pRt S sh a b).1 19 0 t) := Inv.up (q := 19) hC1 (by omega) (show _ ≤ (100000 : Int) by omega)
  have h3c : s_up (pRt S sh a b).1 19 0 t 3 0 = S 3 0 := by rw [s_up_cell (by decide), pRt_3]
  have hCI : Inv (askS S sh a b t) := by
    unfold askS
    split
    · exact hC1
    · split
      · exact gvg_I hCb (by omega) 12
      · exact hCb
  have hhi : ∀ c, 25 ≤ c → askS S sh a b t c = S c := by
    intro c hc
    unfold askS
    split
    · exact pRt_hi S sh a b hc
    · split
      · rw [gvg_hi _ hc, s_up_cell (by omega), pRt_hi S sh a b hc]
      · rw [s_up_cell (by omega), pRt_hi S sh a b hc]
  have hM := mb_of h hhi hCI hT
  obtain ⟨p1, p2, p3, p4, p5, p6⟩ := plan_rel h hM hsh ha hb
  have hlo : ∀ c, c < 25 → (mLy (s_up T 25 0 0) sh a b).1 c = askS S sh a b t c := fun c hc => by rw [mLy_lo sh a b hc, s_up_cell (by omega), hT c (by omega)]
  refine ⟨hT.inv hCI, ?_⟩
  rcases p6 with ⟨q1, q2⟩ | ⟨q1, q2, q3, q4, q5, q6⟩
  · have eC : askS S sh a b t = (pRt S sh a b).1 := by unfold askS; rw [if_pos q1]
    have eM : mAkS (s_up T 25 0 0) sh a b t = (mLy (s_up T 25 0 0) sh a b).1 := by unfold mAkS; rw [if_pos q2]
    rw [Jn_self (fun c hc => by rw [hlo c hc, eC])] at p1
    refine ⟨by rw [eM]; exact p1, ?_⟩
    unfold mAkR askR
    rw [if_pos q2, if_pos q1]
  · have hry := beg_ry p1 q3 (by rw [p4]; exact p5) (t := t) (by omega)
    have hag := ag_J (k := 0) hry
    have hag' : mAg (mAkU (s_up T 25 0 0) sh a b t) 0 0 0 (mAkU (s_up T 25 0 0) sh a b t 40 (0 : Int).toNat).toNat = askB S sh a b t := hag
    have hrel := beg_rel p1 (t := t) (by omega)
    have n1 : ¬ (pRt S sh a b).2 = 0 := by rw [q1]; decide
    have n2 : ¬ (mLy (s_up T 25 0 0) sh a b).2 = false := by rw [q2]; decide
    by_cases hbar : askB S sh a b t = 0
    · have eC : askS S sh a b t = gvg (s_up (pRt S sh a b).1 19 0 t) 12 := by unfold askS; rw [if_neg n1, if_pos hbar]
      have eM : mAkS (s_up T 25 0 0) sh a b t = mCp (mAkU (s_up T 25 0 0) sh a b t) sh t (mAkU (s_up T 25 0 0) sh a b t 40 0).toNat := by unfold mAkS; rw [if_neg n2, if_neg (by rw [hag', hbar]; decide)]
      have hUI : Inv (mAkU (s_up T 25 0 0) sh a b t) := Inv.up (q := 38) p3 (by omega) (show _ ≤ (100000 : Int) by omega)
      obtain ⟨g1, g2⟩ := give_rel hrel (beg_rw q3 0 t t) hCb hUI (sh := sh) (t := t) (by rw [s_up_cell (by decide)]; exact p4) (s_up_self _ _ _ _) (by rw [s_up_cell (by decide), pRt_ne _ _ _ _ (by decide) (by decide) (by decide) (by decide) (by decide) (by decide) (by decide) (by decide)]; exact hsh) (by omega) (by omega)
      have eJ : Jn (gvg (s_up (pRt S sh a b).1 19 0 t) 12) (mCp (mAkU (s_up T 25 0 0) sh a b t) sh t (mAkU (s_up T 25 0 0) sh a b t 40 0).toNat) = mCp (mAkU (s_up T 25 0 0) sh a b t) sh t (mAkU (s_up T 25 0 0) sh a b t 40 0).toNat := Jn_self (fun c hc => by
        rw [mCp_lo _ _ _ _ hc]
        show s_up (mLy (s_up T 25 0 0) sh a b).1 38 0 t c = _
        rw [s_up_cell (by omega), hlo c hc, eC])
      refine ⟨by rw [eM, ← eJ]; exact g1, ?_⟩
      unfold mAkR askR
      rw [if_neg n2, if_neg (by rw [hag', hbar]; decide), if_neg n1, if_pos hbar, g2, mCp_25]
      rfl
    · have hb7 := fBr_b (s_up (pRt S sh a b).1 19 0 t) 0 0 (s_up (pRt S sh a b).1 19 0 t 20 (Int.toNat 0)).toNat
      have hbp : 0 < askB S sh a b t := by unfold askB at hbar ⊢; omega
      have eC : askS S sh a b t = s_up (pRt S sh a b).1 19 0 t := by unfold askS; rw [if_neg n1, if_neg hbar]
      have eM : mAkS (s_up T 25 0 0) sh a b t = mAkU (s_up T 25 0 0) sh a b t := by unfold mAkS; rw [if_neg n2, if_pos (by rw [hag']; exact hbp)]
      have eJ : Jn (s_up (pRt S sh a b).1 19 0 t) (mAkU (s_up T 25 0 0) sh a b t) = mAkU (s_up T 25 0 0) sh a b t := Jn_self (fun c hc => by
        show s_up (mLy (s_up T 25 0 0) sh a b).1 38 0 t c = _
        rw [s_up_cell (by omega), hlo c hc, eC])
      refine ⟨by rw [eM, ← eJ]; exact hrel, ?_⟩
      unfold mAkR askR
      rw [if_neg n2, if_pos (by rw [hag']; exact hbp), if_neg n1, if_neg hbar, hag']

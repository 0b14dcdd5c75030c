/-! call by call: changes, closed spans -/
theorem beg_relj {C M : St} (h : Rel (Jn C M)) (n : Nat) {t : Int} (ht : 0 ≤ t ∧ t ≤ 100000) : Rel (Jn (s_up C 19 n t) (s_up M 38 n t)) := by
  obtain ⟨hI0, hA, hB, hC, hL, hR⟩ := h
  have e : ∀ {c : Nat}, (c ≠ 19 ∧ c ≠ 38) → Jn (s_up C 19 n t) (s_up M 38 n t) c = Jn C M c := by
    intro c hc
    unfold Jn
    rw [s_up_cell hc.1, s_up_cell hc.2]
  have e19 : Jn (s_up C 19 n t) (s_up M 38 n t) 19 = va_up (Jn C M 19) n t := by rw [J_lo (by decide), J_lo (by decide), s_up_same]
  have e38 : Jn (s_up C 19 n t) (s_up M 38 n t) 38 = va_up (Jn C M 38) n t := by rw [J_hi (by decide), J_hi (by decide), s_up_same]
  refine ⟨?_, ?_, ?_, ?_, ?_, ?_⟩
  · intro q j hq
    by_cases q19 : q = 19
    · subst q19
      rw [e19]
      unfold va_up
      split
      · exact ⟨ht.1, ht.2⟩
      · exact hI0 19 j hq
    · by_cases q38 : q = 38
      · subst q38
        rw [e38]
        unfold va_up
        split
        · exact ⟨ht.1, ht.2⟩
        · exact hI0 38 j hq
      · rw [e ⟨q19, q38⟩]; exact hI0 q j hq
  · unfold RA
    rw [e (c := 1) (by decide), e (c := 2) (by decide), e (c := 3) (by decide), e (c := 0) (by decide), e (c := 25) (by decide)]
    exact hA
  · unfold RB
    rw [e (c := 6) (by decide), e (c := 7) (by decide), e (c := 8) (by decide), e (c := 9) (by decide), e (c := 10) (by decide), e (c := 11) (by decide), e (c := 12) (by decide), e (c := 13) (by decide), e (c := 14) (by decide), e (c := 15) (by decide), e (c := 16) (by decide), e (c := 26) (by decide), e (c := 27) (by decide), e (c := 28) (by decide), e (c := 29) (by decide), e (c := 30) (by decide), e (c := 31) (by decide), e (c := 32) (by decide), e (c := 33) (by decide), e (c := 34) (by decide), e (c := 35) (by decide), e (c := 36) (by decide)]
    exact hB
  · unfold RC
    rw [e (c := 17) (by decide), e (c := 18) (by decide), e (c := 20) (by decide), e (c := 37) (by decide), e (c := 39) (by decide), e (c := 40) (by decide), e19, e38]
    refine ⟨hC.1, hC.2.1, fun k hk => ?_, hC.2.2.2⟩
    unfold va_up
    split
    · rfl
    · exact hC.2.2.1 k hk
  · unfold RL
    rw [e (c := 1) (by decide), e (c := 2) (by decide), e (c := 8) (by decide), e (c := 15) (by decide), e (c := 10) (by decide), e (c := 20) (by decide), e (c := 18) (by decide), e (c := 23) (by decide)]
    exact hL
  · intro k h1 h2
    rw [e (c := 3) (by decide)] at h2
    obtain ⟨r1, r2⟩ := hR k h1 h2
    exact ⟨beg_rw r1 n t t, by rw [e (c := 18) (by decide), e (c := 2) (by decide)]; exact r2⟩
theorem s_up_old (S : St) (q i : Nat) (x : Int) : s_up (s_up S q i x) q i (S q i) = S := by
  funext c j
  rw [s_up_at, s_up_at]
  split
  · rename_i h
    rw [h.1, h.2]
  · rfl
/-- the class's state beside the reference's start -/
theorem jn_mb {S M : St} (h : Rel S) (hM : Mb S M) : Rel (Jn S M) := by
  refine h.cg (Jn_inv h.1 hM.1) (fun c h0 h1 h2 h3 h4 => ?_) (fun j hj => ?_)
  · by_cases hc : c < 25
    · rw [J_lo hc]
    · rw [J_hi hc, hM.2.1 c (by omega) h0]
  · rw [J_hi (by decide), hM.2.2 j hj]
theorem km_ch {S T : St} (h3 : S 3 0 = T 25 16) (h6 : S 0 6 = T 25 15) (k t : Int) : kmC T k t = kCh S k t := by
  unfold kmC kCh
  rw [← h3, ← h6]
theorem e_change {S : St} (h : Rel S) {k t : Int} (hk : kCh S k t = 0) {T : St} (hT : Sm (chS S k t) T) (hr : Rel (Jn S (s_up T 25 0 0))) : Inv T ∧ Rel (mChS (s_up T 25 0 0) k t) ∧ mChR (s_up T 25 0 0) k t = chR S k t := by
  have i6 := iv_0 h.1 6
  have hb : (1 ≤ k ∧ k ≤ S 3 0) ∧ (S 0 6 ≤ t ∧ t ≤ 100000) := by
    unfold kCh at hk
    split at hk
    · rename_i c; exact ⟨wn_t c.1, wn_t c.2⟩
    · omega
  have i19 := iv_19 h.1 k.toNat
  have hCI : Inv (chS S k t) := by
    unfold chS
    split
    · exact h.1
    · split
      · exact Inv.up (q := 19) h.1 (by omega) (show _ ≤ (100000 : Int) by omega)
      · rw [s_up_old]; exact h.1
  have hM := mb_of h (C := chS S k t) (fun c hc => by
    unfold chS
    split
    · rfl
    · split
      · rw [s_up_cell (by omega)]
      · rw [s_up_old]) hCI hT
  have ek : k = ((k.toNat : Nat) : Int) := by omega
  have m39 : (s_up T 25 0 0) 39 k.toNat = S 17 k.toNat := by rw [hM.2.1 39 (by decide) (by decide), h.2.2.2.1.1]
  have m38 : (s_up T 25 0 0) 38 k.toNat = S 19 k.toNat := by rw [hM.2.1 38 (by decide) (by decide), h.2.2.2.1.2.2.1 k.toNat (by omega)]
  have m15 : (s_up T 25 0 0) 25 15 = S 0 6 := by rw [hM.2.2 15 (by decide), h.2.1.2.2.2.2]
  have hlo : ∀ c, c < 25 → (s_up T 25 0 0) c = chS S k t c := fun c hc => by rw [s_up_cell (by omega), hT c (by omega)]
  have hst : stB S k = false ↔ ((s_up T 25 0 0) 39 k.toNat = 0 ∨ (s_up T 25 0 0) 38 k.toNat ≤ (s_up T 25 0 0) 25 15) := by
    rw [m39, m38, m15]
    unfold stB
    rw [Bool.and_eq_false_iff]
    simp
  refine ⟨hT.inv hCI, ?_⟩
  by_cases c1 : stB S k = false
  · have c2 := hst.mp c1
    have eC : chS S k t = S := by unfold chS; rw [if_pos c1]
    have eM : mChS (s_up T 25 0 0) k t = s_up T 25 0 0 := by unfold mChS; rw [if_pos c2]
    rw [Jn_self (fun c hc => by rw [hlo c hc, eC])] at hr
    refine ⟨by rw [eM]; exact hr, ?_⟩
    unfold mChR chR
    rw [if_pos c2, if_pos c1]
  · have c2 : ¬ ((s_up T 25 0 0) 39 k.toNat = 0 ∨ (s_up T 25 0 0) 38 k.toNat ≤ (s_up T 25 0 0) 25 15) := fun z => c1 (hst.mpr z)
    have hZ := beg_relj hr k.toNat (t := t) (by omega)
    have hry : Ry (Jn (s_up S 19 k.toNat t) (s_up (s_up T 25 0 0) 38 k.toNat t)) k.toNat := ⟨rel_rx hZ (by omega) (by rw [J_lo (by decide), s_up_cell (by decide)]; omega), fun r h1 h2 => rel_rx hZ h1 h2⟩
    have hag := ag_J hry
    rw [← ek] at hag
    have hb7 := fBr_b (s_up S 19 k.toNat t) k 0 (s_up S 19 k.toNat t 20 k.toNat).toNat
    by_cases c3 : fBr (s_up S 19 k.toNat t) k 0 (s_up S 19 k.toNat t 20 k.toNat).toNat = 0
    · have eC : chS S k t = s_up S 19 k.toNat t := by unfold chS; rw [if_neg c1, if_pos c3]
      have eM : mChS (s_up T 25 0 0) k t = s_up (s_up T 25 0 0) 38 k.toNat t := by unfold mChS; rw [if_neg c2, if_neg (by rw [hag, c3]; decide)]
      rw [Jn_self (fun c hc => by rw [s_up_cell (by omega), hlo c hc, eC])] at hZ
      refine ⟨by rw [eM]; exact hZ, ?_⟩
      unfold mChR chR
      rw [if_neg c2, if_neg (by rw [hag, c3]; decide), if_neg c1, if_pos c3]
    · have eC : chS S k t = S := by unfold chS; rw [if_neg c1, if_neg c3, s_up_old]
      have eM : mChS (s_up T 25 0 0) k t = s_up T 25 0 0 := by unfold mChS; rw [if_neg c2, if_pos (by rw [hag]; omega), s_up_old]
      rw [Jn_self (fun c hc => by rw [hlo c hc, eC])] at hr
      refine ⟨by rw [eM]; exact hr, ?_⟩
      unfold mChR chR
      rw [if_neg c2, if_pos (by rw [hag]; omega), if_neg c1, if_neg c3]

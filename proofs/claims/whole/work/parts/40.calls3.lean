/-! call by call: counts, conflicts, places -/
theorem sp_2 {S S' : St} (h : ∀ c, c ≠ 5 → c < 25 → S' c = S c) (a b n w w' : Int) (k : Nat) : (spP S' a b n w' k).2 = (spP S a b n w k).2 := by
  induction k with
  | zero => rfl
  | succ k ih =>
    have hc : cfw (spP S' a b n w' k).1 b a (k : Int) = cfw (spP S a b n w k).1 b a (k : Int) := cfw_5 (fun c h1 h2 => by rw [spP_ne _ _ _ _ _ _ h1, spP_ne _ _ _ _ _ _ h1]; exact h c h1 h2) _ _ _
    rw [spP_s, spP_s, hc]
    split
    · exact ih
    · split <;> split <;> simp only [] <;> omega
theorem si_2 {P P' : St × Int} (h : ∀ c, c ≠ 5 → c < 25 → P'.1 c = P.1 c) (h2 : P'.2 = P.2) (w w' x : Int) (j : Nat) : (skI w' x P' j).2 = (skI w x P j).2 := by
  induction j with
  | zero => exact h2
  | succ j ih =>
    have hc : ∀ c, c ≠ 5 → c < 25 → (skI w' x P' j).1 c = (skI w x P j).1 c := fun c a b => by rw [skI_ne _ _ _ _ a, skI_ne _ _ _ _ a]; exact h c a b
    rw [skI_s, skI_s, hc 17 (by decide) (by decide), hc 20 (by decide) (by decide), ih]
    split
    · exact ih
    · split
      · exact ih
      · exact sp_2 hc _ _ _ _ _ _
theorem so_2 (S : St) (w w' : Int) (k : Nat) : (skO S w' k).2 = (skO S w k).2 := by
  induction k with
  | zero => rfl
  | succ k ih =>
    rw [skO_s, skO_s]
    exact si_2 (fun c a _ => by rw [skO_ne _ _ _ a, skO_ne _ _ _ a]) ih _ _ _ _
theorem gs_eq {S T : St} (hI : Inv S) (h : S 17 = T 39) (n : Nat) : mGs T n = gSum S n := by
  induction n with
  | zero => rfl
  | succ n ih =>
    have h1 := iv_17 hI (n + 1)
    rw [mGs_s, gSum_s, ih, show ((n : Int) + 1).toNat = n + 1 by omega, ← h]
    split <;> omega
/-- a state of the class beside a state of the reference: all but scratch, the thrown, the law's cell -/
theorem th_sm {S C T : St} (h : Rel S) (hC : ∀ c, c ≠ 4 → c ≠ 5 → C c = S c) (hCI : Inv C) (hT : Sm C T) : Rel (s_up T 25 0 0) := by
  have hIT := hT.inv hCI
  have hc : ∀ c, c ≠ 4 → c ≠ 5 → c ≠ 44 → T c = S c := fun c h1 h2 h3 => by rw [hT c h3, hC c h1 h2]
  refine h.cg (Inv.up (q := 25) hIT (by decide) (show (0 : Int) ≤ 2 by decide)) (fun c h5 h1 h2 h3 _ => by rw [s_up_cell h3]; exact hc c h1 h2 (by omega)) (fun j hj => ?_)
  rw [s_up_ne hj, hc 25 (by decide) (by decide) (by decide)]
theorem e_count {S : St} (h : Rel S) {k : Int} : let C := (if k = 5 then (skO S (-1) (S 3 0).toNat).1 else S); mCn (s_up C 25 0 0) k = cnt S k ∧ Inv C ∧ Rel (s_up C 25 0 0) := by
  intro C
  have h3 := iv_3 h.1 0
  have hC5 : ∀ c, c ≠ 5 → C c = S c := by
    intro c h5
    show (if k = 5 then (skO S (-1) (S 3 0).toNat).1 else S) c = _
    split
    · exact skO_ne _ _ _ h5
    · rfl
  have hC : ∀ c, c ≠ 4 → c ≠ 5 → C c = S c := fun c _ h5 => hC5 c h5
  have hCI : Inv C := by
    show Inv (if k = 5 then (skO S (-1) (S 3 0).toNat).1 else S)
    split
    · exact skO_I h.1 _ _ (by omega)
    · exact h.1
  have hR := th_sm h hC hCI (T := C) (fun _ _ => rfl)
  have hc : ∀ c, c ≠ 4 → c ≠ 5 → c ≠ 25 → s_up C 25 0 0 c = S c := fun c h1 h2 h3 => by rw [s_up_cell h3]; exact hC c h1 h2
  have h25 : ∀ j, j ≠ 0 → s_up C 25 0 0 25 j = S 25 j := fun j hj => by rw [s_up_ne hj, hC 25 (by decide) (by decide)]
  refine ⟨?_, hCI, hR⟩
  have hA := h.2.1
  unfold mCn cnt
  rw [h25 1 (by decide), h25 10 (by decide), h25 16 (by decide), h25 15 (by decide), h25 14 (by decide), ← hA.1, ← hA.2.1, ← hA.2.2.1, ← hA.2.2.2.2, ← hA.2.2.2.1, hc 39 (by decide) (by decide) (by decide), ← h.2.2.2.1.1]
  have i05 := iv_0z h.1
  by_cases c20 : 20 ≤ k
  · rw [if_pos c20, if_neg (show ¬ k = 0 by omega), if_neg (show ¬ k = 1 by omega), if_neg (show ¬ k = 2 by omega), if_neg (show ¬ k = 3 by omega), if_neg (show ¬ k = 4 by omega), if_neg (show ¬ k = 5 by omega), if_neg (show ¬ k = 6 by omega), if_neg (show ¬ k < 20 by omega)]
    rfl
  · rw [if_neg c20]
    by_cases k0 : k = 0
    · rw [if_pos k0, if_pos k0]
    · rw [if_neg k0, if_neg k0]
      by_cases k1 : k = 1
      · rw [if_pos k1, if_pos k1]
      · rw [if_neg k1, if_neg k1]
        by_cases k2 : k = 2
        · rw [if_pos k2, if_pos k2]
        · rw [if_neg k2, if_neg k2]
          by_cases k3 : k = 3
          · rw [if_pos k3, if_pos k3]
            exact gs_eq h.1 (by rw [hc 39 (by decide) (by decide) (by decide)]; exact h.2.2.2.1.1) _
          · rw [if_neg k3, if_neg k3]
            by_cases k4 : k = 4
            · rw [if_pos k4, if_pos k4]
            · rw [if_neg k4, if_neg k4]
              by_cases k5 : k = 5
              · rw [if_pos k5, if_pos k5]
                have hz := cf_all (S := S) (Z := s_up C 25 0 0) (fun r a b => rel_rx hR a b) hR.1 hR.2.1 (fun c a b => by rw [s_up_cell (by omega)]; exact (hC5 c a).symm) (i := 1000000) (w := -1) (by decide)
                have hn := skO_n h.1 1000000 (S 3 0).toNat (by omega)
                unfold mCf
                rcases hx : mCk (s_up C 25 0 0) (-1) 1 (s_up C 25 0 0 25 16).toNat 1000000 with ⟨_ | v, L⟩
                · rw [hx] at hz
                  obtain ⟨z1, z2⟩ : L = 1000000 - (skO S 1000000 (S 3 0).toNat).2 ∧ 0 ≤ L := hz
                  show (if (-1 : Int) < 0 then 1000000 - L else -1) = _
                  rw [if_pos (by decide), so_2 S 1000000 (-1), z1]
                  omega
                · rw [hx] at hz
                  have := hz.1
                  omega
              · rw [if_neg k5, if_neg k5]
                by_cases k6 : k = 6
                · rw [if_pos k6, if_pos k6]
                  split <;> omega
                · rw [if_neg k6, if_neg k6, if_pos (by omega)]
theorem e_conf {S : St} (h : Rel S) {i w : Int} (hw : kCo w = 0) {T : St} (hT : Sm (coS S i) T) : Inv T ∧ Rel (s_up T 25 0 0) ∧ (if i < 0 then -1 else mCf (s_up T 25 0 0) i w) = coR S i w := by
  have h3 := iv_3 h.1 0
  have hw3 : 0 ≤ w ∧ w ≤ 3 := by
    unfold kCo at hw
    split at hw
    · rename_i c
      exact wn_t c
    · omega
  have hC : ∀ c, c ≠ 4 → c ≠ 5 → coS S i c = S c := by
    intro c _ h5
    unfold coS
    split
    · rfl
    · exact skO_ne _ _ _ h5
  have hCI : Inv (coS S i) := by
    unfold coS
    split
    · exact h.1
    · exact skO_I h.1 _ _ (by omega)
  have hR := th_sm h hC hCI hT
  refine ⟨hT.inv hCI, hR, ?_⟩
  unfold coR
  by_cases hi : i < 0
  · rw [if_pos hi, if_pos hi]
  · rw [if_neg hi, if_neg hi]
    have hz := cf_all (S := S) (Z := s_up T 25 0 0) (fun r a b => rel_rx hR a b) hR.1 hR.2.1 (fun c a b => by
      rw [s_up_cell (by omega), hT c (by omega)]
      unfold coS
      split
      · rfl
      · rw [skO_ne _ _ _ a]) (i := i) (w := w) (by omega)
    unfold mCf
    rcases hx : mCk (s_up T 25 0 0) w 1 (s_up T 25 0 0 25 16).toNat i with ⟨_ | v, L⟩
    · rw [hx] at hz
      obtain ⟨z1, z2⟩ : L = i - (skO S i (S 3 0).toNat).2 ∧ 0 ≤ L := hz
      show (if w < 0 then i - L else -1) = _
      rw [if_neg (by omega), if_pos (by omega)]
    · rw [hx] at hz
      show v = _
      rw [if_neg (by have := hz.1; omega)]
      exact (hz.2 hw3.1 hw3.2).symm
theorem km_at {S T : St} (h3 : S 3 0 = T 25 16) (h20 : S 20 = T 40) (k i w : Int) : kmT T k i w = (if kAt S k i w = 0 then 0 else 1) := by
  unfold kmT kAt
  rw [← h3, ← h20]
  split
  · rfl
  · rfl
theorem e_at {S : St} (h : Rel S) {k i w : Int} (hk : kAt S k i w = 0) {T : St} (hT : Sm S T) : Rel (s_up T 25 0 0) ∧ mAtR (s_up T 25 0 0) k i w = atR S k i w := by
  have hb : (1 ≤ k ∧ k ≤ S 3 0) ∧ 0 ≤ i ∧ i < S 20 k.toNat ∧ (0 ≤ w ∧ w ≤ 3) := by
    unfold kAt at hk
    split at hk
    · rename_i c
      exact ⟨wn_t c.1, c.2.1, c.2.2.1, wn_t c.2.2.2⟩
    · omega
  have hR := th_sm h (fun _ _ _ => rfl) h.1 hT
  refine ⟨hR, ?_⟩
  have hc : ∀ c, c ≠ 25 → c ≠ 44 → s_up T 25 0 0 c = S c := fun c h1 h2 => by rw [s_up_cell h1, hT c h2]
  have e1 : k = ((k.toNat : Nat) : Int) := by omega
  have e2 : i = ((i.toNat : Nat) : Int) := by omega
  have hx := rel_rx hR (k := k.toNat) (by omega) (by rw [hc 3 (by decide) (by decide)]; omega)
  have hi : ((i.toNat : Nat) : Int) < (s_up T 25 0 0) 20 k.toNat := by rw [hc 20 (by decide) (by decide)]; omega
  obtain ⟨r1, r2, r3, r4, r5⟩ := rx_row hx hi
  have i22 := iv_22 h.1 (7 * k.toNat + i.toNat)
  unfold mAtR atR
  rw [e1, e2]
  generalize hK : k.toNat = K at *
  generalize hJ : i.toNat = J at *
  rw [ix8, ← r1, ← r2, Int.toNat_natCast, en_eq hx J (by omega), lv_eq hx J hi, pOf_c, fOf_c, hc 21 (by decide) (by decide), hc 22 (by decide) (by decide), enA_c, enA_c, lvA_c, lvA_c, hc 19 (by decide) (by decide), hc 23 (by decide) (by decide)]
  split
  · rfl
  · split
    · rfl
    · split
      · rfl
      · split <;> omega

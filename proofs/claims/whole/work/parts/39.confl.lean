/-! conflicts: counted by the class, counted down by the reference -/
def r5 (S : St) : St := fun c => if c = 5 then (fun _ => 0) else if c < 25 then S c else fun _ => 0
theorem r5_eq {S T : St} (h : ∀ c, c ≠ 5 → c < 25 → T c = S c) : r5 T = r5 S := by
  funext c
  unfold r5
  split
  · rfl
  · split
    · rename_i h1 h2
      exact h c h1 h2
    · rfl
theorem cfw_5 {S T : St} (h : ∀ c, c ≠ 5 → c < 25 → T c = S c) (a b i : Int) : cfw T a b i = cfw S a b i := by
  have e1 : cfw T a b i = cfw (r5 T) a b i := rfl
  have e2 : cfw S a b i = cfw (r5 S) a b i := rfl
  rw [e1, e2, r5_eq h]
/-- the class has seen P.2; the reference has L left, or its answer -/
def Cq (i w : Int) (P : St × Int) (x : Option Int × Int) : Prop := match x.1 with
  | none => x.2 = i - P.2 ∧ 0 ≤ x.2
  | some v => i < P.2 ∧ (0 ≤ w → w ≤ 3 → P.1 5 w.toNat = v)
theorem sp_kept (S : St) (a b n w : Int) {j m : Nat} (h : w < (spP S a b n w j).2) : w < (spP S a b n w (j + m)).2 ∧ (spP S a b n w (j + m)).1 5 = (spP S a b n w j).1 5 := by
  induction m with
  | zero => exact ⟨h, rfl⟩
  | succ m ih =>
    show w < (spP S a b n w (j + m + 1)).2 ∧ (spP S a b n w (j + m + 1)).1 5 = _
    rw [spP_s]
    split
    · exact ih
    · rw [if_neg (by omega)]
      exact ⟨by have := ih.1; simp only []; omega, ih.2⟩
theorem fc_5 (T : St) (a b i : Int) (w : Int) (h0 : 0 ≤ w) (h3 : w ≤ 3) : fcS T a b i 5 w.toNat = if w = 0 then a else if w = 1 then b else if w = 2 then pOf T a i else cfw T b a i := by
  have hp : pOf (s_up (s_up T 5 0 a) 5 1 b) a i = pOf T a i := by
    unfold pOf
    rw [s_up_cell (by decide), s_up_cell (by decide)]
  unfold fcS
  rw [hp]
  have hw : w = 0 ∨ w = 1 ∨ w = 2 ∨ w = 3 := by omega
  rcases hw with rfl | rfl | rfl | rfl <;> simp [s_up_at]
theorem sp_go {Z : St} {P0 : St × Int} {i w : Int} {k r : Nat} (hP : ∀ c, c ≠ 5 → c < 25 → P0.1 c = Z c) (hk : Rx Z k) (hr : Rx Z r) (hg1 : ¬ Z 39 k = 0) (hg2 : ¬ Z 39 r = 0) (m : Nat) : ∀ (j : Nat) (L : Int), ((j + m : Nat) : Int) ≤ Z 20 k →
    Cq i w (spP P0.1 (k : Int) (r : Int) P0.2 i j) (none, L) → Cq i w (spP P0.1 (k : Int) (r : Int) P0.2 i (j + m)) (mCj Z w (k : Int) (r : Int) j m L) := by
  induction m with
  | zero => intro j L _ h; exact h
  | succ m ih =>
    intro j L hj h
    have hv : mWt Z (k : Int) (j : Int) (r : Int) (Z 40 (r : Int).toNat).toNat = cfw Z (r : Int) (k : Int) (j : Int) := wt_eq hk (by omega) hr
    have hc := cfw_b Z (r : Int) (k : Int) (j : Int)
    have hcc : cfw (spP P0.1 (k : Int) (r : Int) P0.2 i j).1 (r : Int) (k : Int) (j : Int) = cfw Z (r : Int) (k : Int) (j : Int) := cfw_5 (fun c h1 h2 => by rw [spP_ne _ _ _ _ _ _ h1]; exact hP c h1 h2) _ _ _
    obtain ⟨h1, h2⟩ : L = i - (spP P0.1 (k : Int) (r : Int) P0.2 i j).2 ∧ 0 ≤ L := h
    rw [mCj_u, if_neg (by rw [Int.toNat_natCast, Int.toNat_natCast]; omega), hv, show j + (m + 1) = (j + 1) + m by omega]
    by_cases c1 : cfw Z (r : Int) (k : Int) (j : Int) = 0
    · rw [c1, if_neg (by omega), if_neg (by omega)]
      refine ih (j + 1) _ (by omega) ?_
      rw [spP_s, hcc, if_pos c1]
      exact ⟨by simp only []; omega, by simp only []; omega⟩
    · by_cases c2 : L = 0
      · rw [if_pos ⟨by omega, c2⟩]
        have hs : spP P0.1 (k : Int) (r : Int) P0.2 i (j + 1) = (fcS (spP P0.1 (k : Int) (r : Int) P0.2 i j).1 (k : Int) (r : Int) (j : Int), (spP P0.1 (k : Int) (r : Int) P0.2 i j).2 + 1) := by
          rw [spP_s, hcc, if_neg c1, if_pos (by omega)]
        have hlt : i < (spP P0.1 (k : Int) (r : Int) P0.2 i (j + 1)).2 := by rw [hs]; simp only []; omega
        obtain ⟨q1, q2⟩ := sp_kept P0.1 (k : Int) (r : Int) P0.2 i (m := m) hlt
        refine ⟨q1, fun w0 w3 => ?_⟩
        rw [q2, hs]
        simp only []
        rw [fc_5 _ _ _ _ w w0 w3, hcc]
        have hp : pOf (spP P0.1 (k : Int) (r : Int) P0.2 i j).1 (k : Int) (j : Int) = Z 41 (8 * k + j) := by
          obtain ⟨r1, -⟩ := rx_row hk (i := j) (by omega)
          rw [pOf_c, spP_ne _ _ _ _ _ _ (by decide), hP 21 (by decide) (by decide), r1]
        unfold mAn
        rw [hp, hv, ix8]
      · rw [if_neg (by omega), if_pos (by omega)]
        refine ih (j + 1) _ (by omega) ?_
        rw [spP_s, hcc, if_neg c1, if_neg (by omega)]
        exact ⟨by simp only []; omega, by simp only []; omega⟩
theorem cq_keep {i w : Int} {P : St × Int} {v L : Int} (h : Cq i w P (some v, L)) {Q : St × Int} (h1 : i < Q.2) (h2 : Q.1 5 = P.1 5) : Cq i w Q (some v, L) := ⟨h1, fun a b => by rw [h2]; exact h.2 a b⟩
theorem sp_all {S : St} {a b n w : Int} (h : w < n) (m : Nat) : w < (spP S a b n w m).2 ∧ (spP S a b n w m).1 5 = S 5 := by
  have := sp_kept S a b n w (j := 0) (m := m) h
  rwa [Nat.zero_add] at this
/-- slots greater than k -/
theorem si_go {Z : St} {P0 : St × Int} {i w : Int} {k : Nat} (hZ : ∀ r : Nat, 1 ≤ r → (r : Int) ≤ Z 3 0 → Rx Z r) (h1k : 1 ≤ k) (hP : ∀ c, c ≠ 5 → c < 25 → P0.1 c = Z c) (m : Nat) : ∀ (j : Nat) (x : Option Int × Int), ((k + j + m : Nat) : Int) ≤ Z 3 0 →
    Cq i w (skI i (k : Int) P0 j) x → Cq i w (skI i (k : Int) P0 (j + m)) (mOb x (fun L => mCr Z w (k : Int) (k + 1 + j) m L)) := by
  induction m with
  | zero =>
    intro j x _ h
    rcases x with ⟨_ | v, L⟩
    · exact h
    · exact h
  | succ m ih =>
    intro j x hj h
    rw [show j + (m + 1) = (j + 1) + m by omega]
    have hk := hZ k h1k (by omega)
    have hr := hZ (k + 1 + j) (by omega) (by omega)
    have hcell : ∀ c, c ≠ 5 → c < 25 → (skI i (k : Int) P0 j).1 c = Z c := fun c a b => by rw [skI_ne _ _ _ _ a]; exact hP c a b
    have e1 : (k : Int) + 1 + (j : Int) = ((k + 1 + j : Nat) : Int) := by omega
    have h17 : (skI i (k : Int) P0 j).1 17 = Z 39 := by rw [hcell 17 (by decide) (by decide), hk.2.2.2.2.2.1]
    have h20 : (skI i (k : Int) P0 j).1 20 k = Z 20 k := by rw [hcell 20 (by decide) (by decide)]
    have i20 := iv_20 hk.1 k
    have hstep : skI i (k : Int) P0 (j + 1) = if Z 39 k = 0 then skI i (k : Int) P0 j else if Z 39 (k + 1 + j) = 0 then skI i (k : Int) P0 j else spP (skI i (k : Int) P0 j).1 (k : Int) ((k + 1 + j : Nat) : Int) (skI i (k : Int) P0 j).2 i (Z 20 k).toNat := by
      rw [skI_s, h17, e1, Int.toNat_natCast, Int.toNat_natCast, h20]
    have hnext : Cq i w (skI i (k : Int) P0 (j + 1)) (mOb x (fun L => mCj Z w (k : Int) ((k + 1 + j : Nat) : Int) 0 (Z 40 (k : Int).toNat).toNat L)) := by
      rw [hstep]
      rcases x with ⟨_ | v, L⟩
      · show Cq i w _ (mCj Z w (k : Int) ((k + 1 + j : Nat) : Int) 0 (Z 40 (k : Int).toNat).toNat L)
        by_cases g1 : Z 39 k = 0
        · rw [if_pos g1]
          have := mCj_e Z w (k : Int) ((k + 1 + j : Nat) : Int) 0 (Z 40 (k : Int).toNat).toNat L (by rw [Int.toNat_natCast, Int.toNat_natCast]; omega)
          rw [Nat.sub_zero] at this
          rw [this]
          exact h
        · rw [if_neg g1]
          by_cases g2 : Z 39 (k + 1 + j) = 0
          · rw [if_pos g2]
            have := mCj_e Z w (k : Int) ((k + 1 + j : Nat) : Int) 0 (Z 40 (k : Int).toNat).toNat L (by rw [Int.toNat_natCast, Int.toNat_natCast]; omega)
            rw [Nat.sub_zero] at this
            rw [this]
            exact h
          · rw [if_neg g2]
            have hg := sp_go (i := i) (w := w) (P0 := skI i (k : Int) P0 j) hcell hk hr g1 g2 (Z 20 k).toNat 0 L (by omega) h
            rw [Nat.zero_add] at hg
            rw [Int.toNat_natCast, ← rx_st hk]
            exact hg
      · show Cq i w _ (some v, L)
        split
        · exact h
        · split
          · exact h
          · obtain ⟨q1, q2⟩ := sp_all (S := (skI i (k : Int) P0 j).1) (a := (k : Int)) (b := ((k + 1 + j : Nat) : Int)) (w := i) h.1 (Z 20 k).toNat
            exact cq_keep h q1 q2
    have hi := ih (j + 1) _ (by omega) hnext
    have eL : mOb (mOb x (fun L => mCj Z w (k : Int) ((k + 1 + j : Nat) : Int) 0 (Z 40 (k : Int).toNat).toNat L)) (fun L => mCr Z w (k : Int) (k + 1 + (j + 1)) m L) = mOb x (fun L => mCr Z w (k : Int) (k + 1 + j) (m + 1) L) := by
      rcases x with ⟨_ | v, L⟩
      · rfl
      · rfl
    rw [eL] at hi
    exact hi
theorem so_go {S Z : St} {i w : Int} (hZ : ∀ r : Nat, 1 ≤ r → (r : Int) ≤ Z 3 0 → Rx Z r) (hS : ∀ c, c ≠ 5 → c < 25 → S c = Z c) (h3 : 0 ≤ Z 3 0) (m : Nat) : ∀ (k : Nat) (x : Option Int × Int), ((k + m : Nat) : Int) = Z 3 0 →
    Cq i w (skO S i k) x → Cq i w (skO S i (k + m)) (mOb x (fun L => mCk Z w (k + 1) m L)) := by
  induction m with
  | zero =>
    intro k x _ h
    rcases x with ⟨_ | v, L⟩
    · exact h
    · exact h
  | succ m ih =>
    intro k x hk h
    rw [show k + (m + 1) = (k + 1) + m by omega]
    have hn : (S 3 0 - ((k : Int) + 1)).toNat = m := by rw [hS 3 (by decide) (by decide)]; omega
    have hg := si_go (i := i) (w := w) (P0 := skO S i k) (k := k + 1) hZ (by omega) (fun c a b => by rw [skO_ne _ _ _ a]; exact hS c a b) m 0 x (by omega) h
    rw [Nat.zero_add] at hg
    have hst : skO S i (k + 1) = skI i ((k + 1 : Nat) : Int) (skO S i k) m := by rw [skO_s, hn]; rfl
    rw [← hst] at hg
    have hi := ih (k + 1) _ (by omega) hg
    have eL : mOb (mOb x (fun L => mCr Z w ((k + 1 : Nat) : Int) (k + 1 + 1 + 0) m L)) (fun L => mCk Z w (k + 1 + 1) m L) = mOb x (fun L => mCk Z w (k + 1) (m + 1) L) := by
      rcases x with ⟨_ | v, L⟩
      · rfl
      · rfl
    rw [eL] at hi
    exact hi
theorem cf_all {S Z : St} (hR : ∀ r : Nat, 1 ≤ r → (r : Int) ≤ Z 3 0 → Rx Z r) (hI : Inv Z) (hA : RA Z) (hS : ∀ c, c ≠ 5 → c < 25 → S c = Z c) {i w : Int} (hi : 0 ≤ i) : Cq i w (skO S i (S 3 0).toNat) (mCk Z w 1 (Z 25 16).toNat i) := by
  have h3 := iv_3 hI 0
  have hg := so_go (i := i) (w := w) hR hS h3.1 (Z 3 0).toNat 0 (none, i) (by omega) ⟨by show i = i - 0; omega, hi⟩
  rw [Nat.zero_add] at hg
  rw [hS 3 (by decide) (by decide), ← hA.2.2.1]
  exact hg

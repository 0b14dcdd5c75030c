/-! the reference lays a route -/
theorem s_up_same (S : St) (q i : Nat) (x : Int) : s_up S q i x q = va_up (S q) i x := by
  unfold s_up va_up
  rw [if_pos rfl]
theorem ifmin (x y : Int) : (if y < x then y else x) = min x y := by split <;> omega
theorem mU1_43 (S : St) (q t : Int) : mU1 S q t 43 = rx1 (S 26 q.toNat).toNat (S 27 q.toNat).toNat t (S 43) := by
  unfold mU1 rx1
  rw [s_up_same, ifmin]
theorem mU2_43 (S : St) (q t : Int) : mU2 S q t 43 = rx2 (S 26 q.toNat).toNat (S 27 q.toNat).toNat t (S 43) := by
  unfold mU2 rx2
  rw [s_up_same, ifmin, mU1_43]
theorem mTk_cg {S T : St} (h1 : T 28 = S 28) (h2 : T 35 = S 35) (sh q : Int) : mTk T sh q = mTk S sh q := by
  unfold mTk
  rw [h1, h2]
def mfa (S : St) (q : Nat) : Nat := (S 26 q).toNat
def mfb (S : St) (q : Nat) : Nat := (S 27 q).toNat
def mft (S : St) (sh : Int) (q : Nat) : Bool := !decide (S 29 q < S 34 sh.toNat)
def mtt (S : St) (sh : Int) (q : Nat) : Int := mTk S sh (q : Int)
theorem mlp_43 (T : St) (sh : Int) (k : Nat) : mlp T sh k 43 = rxP (mfa T) (mfb T) (mft T sh) (mtt T sh) (T 43) k := by
  induction k with
  | zero => rfl
  | succ k ih =>
    rw [mlp_s, rxP_s, mlp_ne _ _ _ (show 29 ≠ 43 by decide), mlp_ne _ _ _ (show 34 ≠ 43 by decide), Int.toNat_natCast]
    by_cases hc : T 29 k < T 34 sh.toNat
    · rw [if_pos hc, if_neg (by simp [mft, hc]), ih]
    · rw [if_neg hc, if_pos (by simp [mft, hc]), mU2_43, ih, mlp_ne _ _ _ (show 26 ≠ 43 by decide), mlp_ne _ _ _ (show 27 ≠ 43 by decide), mTk_cg (mlp_ne _ _ _ (by decide)) (mlp_ne _ _ _ (by decide)), Int.toNat_natCast]
      rfl
theorem mlr_43 (T : St) (sh : Int) (r : Nat) : mlr T sh r 43 = rxR (mfa T) (mfb T) (mft T sh) (mtt T sh) (T 25 1).toNat (T 43) r := by
  induction r with
  | zero => rfl
  | succ r ih =>
    show mlp (mlr T sh r) sh (mlr T sh r 25 1).toNat 43 = _
    rw [mlp_43, rxR_s, ih]
    have e1 : mfa (mlr T sh r) = mfa T := by funext q; unfold mfa; rw [mlr_ne _ _ _ (by decide)]
    have e2 : mfb (mlr T sh r) = mfb T := by funext q; unfold mfb; rw [mlr_ne _ _ _ (by decide)]
    have e3 : mft (mlr T sh r) sh = mft T sh := by funext q; unfold mft; rw [mlr_ne _ _ _ (show 29 ≠ 43 by decide), mlr_ne _ _ _ (show 34 ≠ 43 by decide)]
    have e4 : mtt (mlr T sh r) sh = mtt T sh := by funext q; unfold mtt; exact mTk_cg (mlr_ne _ _ _ (by decide)) (mlr_ne _ _ _ (by decide)) _ _
    rw [e1, e2, e3, e4, mlr_ne _ _ _ (show 25 ≠ 43 by decide)]
theorem mm1_43 (S : St) (b : Int) (k j : Nat) : mm1 S b k 43 j = if j < k then (if (j : Int) = b then 0 else 1000000) else S 43 j := by
  induction k with
  | zero => rfl
  | succ k ih =>
    rw [mm1_s, s_up_same]
    unfold va_up
    by_cases e : j = k
    · subst e
      rw [if_pos rfl, if_pos (show j < j + 1 by omega)]
    · rw [if_neg e, ih]
      by_cases h : j < k
      · rw [if_pos h, if_pos (show j < k + 1 by omega)]
      · rw [if_neg h, if_neg (show ¬ j < k + 1 by omega)]
theorem mTt_43 (S : St) (sh b : Int) : mTt S sh b 43 = rxR (mfa S) (mfb S) (mft S sh) (mtt S sh) (S 25 1).toNat (mm1 S b 8 43) 8 := by
  unfold mTt
  rw [mlr_43]
  have e1 : mfa (mm1 S b 8) = mfa S := by funext q; unfold mfa; rw [mm1_ne _ _ _ (by decide)]
  have e2 : mfb (mm1 S b 8) = mfb S := by funext q; unfold mfb; rw [mm1_ne _ _ _ (by decide)]
  have e3 : mft (mm1 S b 8) sh = mft S sh := by funext q; unfold mft; rw [mm1_ne _ _ _ (show 29 ≠ 43 by decide), mm1_ne _ _ _ (show 34 ≠ 43 by decide)]
  have e4 : mtt (mm1 S b 8) sh = mtt S sh := by funext q; unfold mtt; exact mTk_cg (mm1_ne _ _ _ (by decide)) (mm1_ne _ _ _ (by decide)) _ _
  rw [e1, e2, e3, e4, mm1_ne _ _ _ (show 25 ≠ 43 by decide)]
theorem mTk_1 {S : St} {sh q : Int} (h1 : 1 ≤ S 28 q.toNat) (h2 : 1 ≤ S 35 sh.toNat) : 1 ≤ mTk S sh q := by
  have h3 := Int.ediv_nonneg (a := S 28 q.toNat) (b := S 35 sh.toNat) (by omega) (by omega)
  have h4 := Int.emod_nonneg (S 28 q.toNat) (show S 35 sh.toNat ≠ 0 by omega)
  have h5 := Int.emod_add_mul_ediv (S 28 q.toNat) (S 35 sh.toNat)
  unfold mTk
  split
  · omega
  · have e : S 28 q.toNat % S 35 sh.toNat = 0 := by omega
    rw [e] at h5
    by_cases h6 : S 28 q.toNat / S 35 sh.toNat = 0
    · rw [h6] at h5
      simp at h5
      omega
    · omega
/-- the times at rest, of the reference -/
theorem mT_7 {S : St} (hI : Inv S) {sh b : Int} (hb : 0 ≤ b ∧ b ≤ 7) (hs : 1 ≤ S 35 sh.toNat) (hle : ∀ j : Nat, (j : Int) < S 25 1 → 1 ≤ S 28 j) :
    mTt S sh b 43 = rxR (mfa S) (mfb S) (mft S sh) (mtt S sh) (S 25 1).toNat (mm1 S b 8 43) 7 ∧
    (∀ v, v < 8 → v ≠ b.toNat → mTt S sh b 43 v < 1000000 → ∃ q u, q < (S 25 1).toNat ∧ mft S sh q = true ∧ lkd (mfa S) (mfb S) q u v ∧ mTt S sh b 43 v = mtt S sh q + mTt S sh b 43 u) ∧
    mTt S sh b 43 b.toNat = 0 := by
  have hn : ∀ k, k < (S 25 1).toNat → mfa S k < 8 ∧ mfb S k < 8 := by
    intro k _
    have h1 := iv_26 hI k
    have h2 := iv_27 hI k
    unfold mfa mfb
    omega
  have ht : ∀ q, 0 ≤ mtt S sh q := fun q => (mTk_b hI hs (q : Int)).1
  have ht1 : ∀ q, q < (S 25 1).toNat → 1 ≤ mtt S sh q := by
    intro q hq
    exact mTk_1 (by rw [Int.toNat_natCast]; exact hle q (by omega)) hs
  have hb0 : mm1 S b 8 43 b.toNat = 0 := by rw [mm1_43, if_pos (by omega), if_pos (by omega)]
  have h8 : ∀ v, v < 8 → v ≠ b.toNat → mm1 S b 8 43 v = 1000000 := by
    intro v hv hne
    rw [mm1_43, if_pos hv, if_neg (by omega)]
  have hd : ∀ v, 0 ≤ mm1 S b 8 43 v := fun v => (iv_43 (mm1_I hI 8) v).1
  have e : mTt S sh b 43 = rxR (mfa S) (mfb S) (mft S sh) (mtt S sh) (S 25 1).toNat (mm1 S b 8 43) 7 := by
    rw [mTt_43, rxR_7 hn ht ht1 hb0 h8 (by decide) hd]
  refine ⟨e, ?_, ?_⟩
  · rw [e]
    exact rxR_end hn ht ht1 hb0 h8 (by decide) hd
  · rw [e]
    exact rxR_b0 ht hb0 hd 7
def mSy (T : St) (sh x : Int) : St := s_up (s_up (s_up T 41 (T 40 0).toNat (mNx T sh x)) 42 (T 40 0).toNat (if T 26 (mNx T sh x).toNat = x then 1 else 0)) 40 0 (T 40 0 + 1)
def mLl (sh b : Int) : Nat → St → Int → St
  | 0, T, _ => T
  | n + 1, T, x => if x = b then T else mLl sh b n (mSy T sh x) (mOe T (mNx T sh x) x)
theorem mLl_s (sh b : Int) (n : Nat) (T : St) (x : Int) (h : n < 8) : mLl sh b (8 - n) T x = if x = b then T else mLl sh b (8 - (n + 1)) (mSy T sh x) (mOe T (mNx T sh x) x) := by
  have e : 8 - n = (8 - (n + 1)) + 1 := by omega
  rw [e]
  rfl
def mL0 (S : St) (sh b : Int) : St := s_up (s_up (mTt S sh b) 37 0 sh) 40 0 0
def mLy (S : St) (sh a b : Int) : St × Bool := if a = b ∨ 1000000 ≤ mL0 S sh b 43 a.toNat then (mL0 S sh b, false) else (mLl sh b 8 (mL0 S sh b) a, true)
theorem mLy_u (S : St) (sh a b : Int) : mLy S sh a b = if a = b ∨ 1000000 ≤ mL0 S sh b 43 a.toNat then (mL0 S sh b, false) else (mLl sh b 8 (mL0 S sh b) a, true) := rfl
/-- only the plan's row has changed -/
def mLo (S : St) (sh b : Int) (T : St) : Prop := ∀ c, c ≠ 40 → c ≠ 41 → c ≠ 42 → T c = mL0 S sh b c
theorem mL0_ne (S : St) (sh b : Int) {c : Nat} (h1 : c ≠ 37) (h2 : c ≠ 40) (h3 : c ≠ 43) : mL0 S sh b c = S c := by
  unfold mL0
  rw [s_up_cell h2, s_up_cell h1, mTt_ne _ _ _ h3]
theorem mL0_43 (S : St) (sh b : Int) : mL0 S sh b 43 = mTt S sh b 43 := by
  unfold mL0
  rw [s_up_cell (by decide), s_up_cell (by decide)]
theorem mL0_I {S : St} (hI : Inv S) {sh b : Int} (hsh : 0 ≤ sh ∧ sh < 12) (hs : 1 ≤ S 35 sh.toNat) : Inv (mL0 S sh b) :=
  Inv.up (q := 40) (Inv.up (q := 37) (mTt_I sh b hI hs) hsh.1 (show _ ≤ 11 by omega)) (by decide) (show (0 : Int) ≤ 7 by decide)
theorem mL_35 {S T : St} {sh b : Int} (h : mLo S sh b T) : T 35 sh.toNat = S 35 sh.toNat := by
  rw [h 35 (by decide) (by decide) (by decide), mL0_ne _ _ _ (by decide) (by decide) (by decide)]
def mLc (S : St) (sh b : Int) (n : Nat) (T : St) (x : Int) : Prop := (0 ≤ x ∧ x ≤ 7) ∧ Inv T ∧ mLo S sh b T ∧ mL0 S sh b 43 x.toNat < 1000000 ∧ T 40 0 = (n : Int) ∧ csd (mL0 S sh b 43) x.toNat 8 + n ≤ 7
theorem mLc_0 {S : St} (hI : Inv S) {sh a b : Int} (hsh : 0 ≤ sh ∧ sh < 12) (hb : 0 ≤ b ∧ b ≤ 7) (hs : 1 ≤ S 35 sh.toNat) (hle : ∀ j : Nat, (j : Int) < S 25 1 → 1 ≤ S 28 j) (ha : 0 ≤ a ∧ a ≤ 7) (h : mL0 S sh b 43 a.toNat < 1000000) : mLc S sh b 0 (mL0 S sh b) a := by
  refine ⟨ha, mL0_I hI hsh hs, fun c _ _ _ => rfl, h, s_up_self _ _ _ _, ?_⟩
  have := (csd_b (mL0 S sh b 43) a.toNat 8).2 (by omega)
  omega
/-- the search for a piece: what it finds keeps the time; it misses none -/
theorem mNf_P (S : St) (sh t : Int) (k n : Nat) : (mNf S sh t k n = -1 ∧ ∀ q, k ≤ q → q < k + n → ¬ (¬ mOe S (q : Int) t < 0 ∧ ¬ S 29 q < S 34 sh.toNat ∧ S 43 t.toNat = mTk S sh (q : Int) + S 43 (mOe S (q : Int) t).toNat)) ∨ ∃ q : Nat, k ≤ q ∧ q < k + n ∧ mNf S sh t k n = (q : Int) ∧ (¬ mOe S (q : Int) t < 0 ∧ ¬ S 29 q < S 34 sh.toNat ∧ S 43 t.toNat = mTk S sh (q : Int) + S 43 (mOe S (q : Int) t).toNat) := by
  induction n generalizing k with
  | zero => exact Or.inl ⟨rfl, fun q h1 h2 => absurd h2 (by omega)⟩
  | succ n ih =>
    rw [mNf_u, Int.toNat_natCast]
    by_cases hc : ¬ mOe S (k : Int) t < 0 ∧ ¬ S 29 k < S 34 sh.toNat ∧ S 43 t.toNat = mTk S sh (k : Int) + S 43 (mOe S (k : Int) t).toNat
    · rw [if_pos hc]
      exact Or.inr ⟨k, Nat.le_refl _, by omega, rfl, hc⟩
    · rw [if_neg hc]
      rcases ih (k + 1) with ⟨h1, h2⟩ | ⟨q, h1, h2, h3, h4⟩
      · refine Or.inl ⟨h1, fun q hq1 hq2 => ?_⟩
        by_cases e : q = k
        · rw [e]; exact hc
        · exact h2 q (by omega) (by omega)
      · exact Or.inr ⟨q, by omega, by omega, h3, h4⟩
theorem mOe_cg {S T : St} (h1 : T 26 = S 26) (h2 : T 27 = S 27) (q t : Int) : mOe T q t = mOe S q t := by
  unfold mOe
  rw [h1, h2]
theorem mNf_cg {S T : St} (h26 : T 26 = S 26) (h27 : T 27 = S 27) (h28 : T 28 = S 28) (h29 : T 29 = S 29) (h34 : T 34 = S 34) (h35 : T 35 = S 35) (h43 : T 43 = S 43) (sh t : Int) (q n : Nat) : mNf T sh t q n = mNf S sh t q n := by
  induction n generalizing q with
  | zero => rfl
  | succ n ih =>
    rw [mNf_u, mNf_u, mOe_cg h26 h27, mTk_cg h28 h35, h29, h34, h43, ih]
theorem mNx_cg {S T : St} (h25 : T 25 = S 25) (h26 : T 26 = S 26) (h27 : T 27 = S 27) (h28 : T 28 = S 28) (h29 : T 29 = S 29) (h34 : T 34 = S 34) (h35 : T 35 = S 35) (h43 : T 43 = S 43) (sh t : Int) : mNx T sh t = mNx S sh t := by
  unfold mNx
  rw [mNf_cg h26 h27 h28 h29 h34 h35 h43, h25, h43]
/-- from every point that is reached a piece goes on -/
theorem mL_next {S : St} (hI : Inv S) {sh b : Int} (hsh : 0 ≤ sh ∧ sh < 12) (hb : 0 ≤ b ∧ b ≤ 7) (hs : 1 ≤ S 35 sh.toNat) (hle : ∀ j : Nat, (j : Int) < S 25 1 → 1 ≤ S 28 j) {T : St} {x : Int} (hT : mLo S sh b T) (hx : 0 ≤ x ∧ x ≤ 7) (hF : mL0 S sh b 43 x.toNat < 1000000) (hne : ¬ x = b) :
    0 ≤ mNx T sh x ∧ mNx T sh x < S 25 1 ∧ 0 ≤ mOe T (mNx T sh x) x ∧ mOe T (mNx T sh x) x ≤ 7 ∧ (T 26 (mNx T sh x).toNat = x ∨ (¬ T 26 (mNx T sh x).toNat = x ∧ T 27 (mNx T sh x).toNat = x)) ∧ 1 ≤ mTk T sh (mNx T sh x) ∧ ¬ T 29 (mNx T sh x).toNat < T 34 sh.toNat ∧ mL0 S sh b 43 x.toNat = mTk T sh (mNx T sh x) + mL0 S sh b 43 (mOe T (mNx T sh x) x).toNat := by
  have c25 : T 25 = S 25 := by rw [hT 25 (by decide) (by decide) (by decide), mL0_ne _ _ _ (by decide) (by decide) (by decide)]
  have c26 : T 26 = S 26 := by rw [hT 26 (by decide) (by decide) (by decide), mL0_ne _ _ _ (by decide) (by decide) (by decide)]
  have c27 : T 27 = S 27 := by rw [hT 27 (by decide) (by decide) (by decide), mL0_ne _ _ _ (by decide) (by decide) (by decide)]
  have c28 : T 28 = S 28 := by rw [hT 28 (by decide) (by decide) (by decide), mL0_ne _ _ _ (by decide) (by decide) (by decide)]
  have c29 : T 29 = S 29 := by rw [hT 29 (by decide) (by decide) (by decide), mL0_ne _ _ _ (by decide) (by decide) (by decide)]
  have c34 : T 34 = S 34 := by rw [hT 34 (by decide) (by decide) (by decide), mL0_ne _ _ _ (by decide) (by decide) (by decide)]
  have c35 : T 35 = S 35 := by rw [hT 35 (by decide) (by decide) (by decide), mL0_ne _ _ _ (by decide) (by decide) (by decide)]
  have c43 : T 43 = mTt S sh b 43 := by rw [hT 43 (by decide) (by decide) (by decide), mL0_43]
  obtain ⟨e7, hend, hb0⟩ := mT_7 hI hb hs hle
  rw [mL0_43] at hF ⊢
  obtain ⟨q, u, hq, hf, hl, hd⟩ := hend x.toNat (by omega) (by omega) hF
  have hpos : 0 < mTt S sh b 43 x.toNat := by
    have h1 : 1 ≤ mtt S sh q := mTk_1 (by rw [Int.toNat_natCast]; exact hle q (by omega)) hs
    have h2 := (iv_43 (mTt_I sh b hI hs) u).1
    omega
  have i26 := iv_26 hI q
  have i27 := iv_27 hI q
  have hoe : mOe S (q : Int) x = (u : Int) := by
    unfold mOe
    rw [Int.toNat_natCast]
    unfold lkd mfa mfb at hl
    by_cases h1 : S 26 q = x
    · rw [if_pos h1]; omega
    · rw [if_neg h1, if_pos (by omega)]; omega
  have hnx : mNx T sh x = mNf T sh x 0 (S 25 1).toNat := by
    unfold mNx
    rw [c43, if_pos hpos, c25]
  rcases mNf_P T sh x 0 (S 25 1).toNat with ⟨h1, h2⟩ | ⟨q2, h1, h2, h3, h4⟩
  · exfalso
    refine h2 q (by omega) (by omega) ⟨?_, ?_, ?_⟩
    · rw [mOe_cg c26 c27, hoe]; omega
    · rw [c29, c34]
      intro hh
      simp [mft, hh] at hf
    · rw [mOe_cg c26 c27, hoe, c43, mTk_cg c28 c35, hd, Int.toNat_natCast]
      rfl
  · rw [hnx, h3, Int.toNat_natCast]
    have j26 := iv_26 hI q2
    have j27 := iv_27 hI q2
    have hm : mOe T (q2 : Int) x ≤ 7 := by unfold mOe; rw [c26, c27, Int.toNat_natCast]; repeat (first | omega | split)
    refine ⟨by omega, by omega, by omega, hm, ?_, ?_, h4.2.1, ?_⟩
    · have := h4.1
      unfold mOe at this
      rw [Int.toNat_natCast] at this
      by_cases k1 : T 26 q2 = x
      · exact Or.inl k1
      · rw [if_neg k1] at this
        by_cases k2 : T 27 q2 = x
        · exact Or.inr ⟨k1, k2⟩
        · rw [if_neg k2] at this
          omega
    · rw [mTk_cg c28 c35]
      exact mTk_1 (by rw [Int.toNat_natCast]; exact hle q2 (by omega)) hs
    · have := h4.2.2
      rw [c43] at this
      exact this
theorem mL_step {S : St} (hI : Inv S) {sh b : Int} (hsh : 0 ≤ sh ∧ sh < 12) (hb : 0 ≤ b ∧ b ≤ 7) (hs : 1 ≤ S 35 sh.toNat) (hle : ∀ j : Nat, (j : Int) < S 25 1 → 1 ≤ S 28 j) {n : Nat} {T : St} {x : Int} (h : mLc S sh b n T x) (hx : ¬ x = b) :
    mLc S sh b (n + 1) (mSy T sh x) (mOe T (mNx T sh x) x) ∧ csd (mL0 S sh b 43) (mOe T (mNx T sh x) x).toNat 8 < csd (mL0 S sh b 43) x.toNat 8 ∧ 0 ≤ mNx T sh x ∧ mNx T sh x < 12 ∧ (T 26 (mNx T sh x).toNat = x ∨ (¬ T 26 (mNx T sh x).toNat = x ∧ T 27 (mNx T sh x).toNat = x)) ∧ T 40 0 ≤ 6 ∧ n < 7 := by
  obtain ⟨h1, h2, h3, h4, h5, h6⟩ := h
  obtain ⟨g1, g2, g3, g4, g5, g6, g7, g8⟩ := mL_next hI hsh hb hs hle h3 h1 h4 hx
  have i1 := iv_25p hI
  have i43 := iv_43 (mL0_I hI (b := b) hsh hs) (mOe T (mNx T sh x) x).toNat
  have hc := (csd_le (mL0 S sh b 43) (u := (mOe T (mNx T sh x) x).toNat) (v := x.toNat) (by omega) 8).2 (by omega)
  refine ⟨⟨⟨g3, g4⟩, ?_, ?_, by omega, ?_, by omega⟩, hc, g1, by omega, g5, by omega, by omega⟩
  · have a1 := Inv.up (q := 41) (i := (T 40 0).toNat) (x := mNx T sh x) h2 g1 (show _ ≤ 11 by omega)
    have a2 := Inv.up (q := 42) (i := (T 40 0).toNat) (x := if T 26 (mNx T sh x).toNat = x then 1 else 0) a1 (by split <;> omega) (show _ ≤ 1 by split <;> omega)
    exact Inv.up (q := 40) (i := 0) (x := T 40 0 + 1) a2 (by omega) (show _ ≤ 7 by omega)
  · intro c k1 k2 k3
    unfold mSy
    rw [s_up_cell k1, s_up_cell k3, s_up_cell k2, h3 c k1 k2 k3]
  · unfold mSy
    rw [s_up_self, h5]
    omega
theorem mLl_I {S : St} (hI : Inv S) {sh b : Int} (hsh : 0 ≤ sh ∧ sh < 12) (hb : 0 ≤ b ∧ b ≤ 7) (hs : 1 ≤ S 35 sh.toNat) (hle : ∀ j : Nat, (j : Int) < S 25 1 → 1 ≤ S 28 j) (f : Nat) {n : Nat} {T : St} {x : Int} (h : mLc S sh b n T x) : Inv (mLl sh b f T x) ∧ mLo S sh b (mLl sh b f T x) := by
  induction f generalizing n T x with
  | zero => exact ⟨h.2.1, h.2.2.1⟩
  | succ f ih =>
    unfold mLl
    split
    · exact ⟨h.2.1, h.2.2.1⟩
    · rename_i hx
      exact ih (mL_step hI hsh hb hs hle h hx).1
theorem mLy_O {S : St} (a : Int) (hI : Inv S) {sh b : Int} (hsh : 0 ≤ sh ∧ sh < 12) (ha : 0 ≤ a ∧ a ≤ 7) (hb : 0 ≤ b ∧ b ≤ 7) (hs : 1 ≤ S 35 sh.toNat) (hle : ∀ j : Nat, (j : Int) < S 25 1 → 1 ≤ S 28 j) : Inv (mLy S sh a b).1 ∧ mLo S sh b (mLy S sh a b).1 := by
  rw [mLy_u]
  split
  · exact ⟨mL0_I hI hsh hs, fun c _ _ _ => rfl⟩
  · exact mLl_I hI hsh hb hs hle 8 (mLc_0 hI hsh hb hs hle ha (by omega))
theorem mLy_I {S : St} (a : Int) (hI : Inv S) {sh b : Int} (hsh : 0 ≤ sh ∧ sh < 12) (ha : 0 ≤ a ∧ a ≤ 7) (hb : 0 ≤ b ∧ b ≤ 7) (hs : 1 ≤ S 35 sh.toNat) (hle : ∀ j : Nat, (j : Int) < S 25 1 → 1 ≤ S 28 j) : Inv (mLy S sh a b).1 := (mLy_O a hI hsh ha hb hs hle).1
set_option maxHeartbeats 4000000 in
set_option maxRecDepth 100000 in
theorem c_md_lays (l : Launch) (G : Gt) (S : St) (sh : Int) (a : Int) (b : Int) (hI : Inv S) (hsh : 0 ≤ sh ∧ sh < 12) (ha : 0 ≤ a ∧ a ≤ 7) (hb : 0 ≤ b ∧ b ≤ 7) (hs : 1 ≤ S 35 sh.toNat) (hle : ∀ j : Nat, (j : Int) < S 25 1 → 1 ≤ S 28 j) : Met l y_md_lays [.code y_md_lays b_md_lays 6 (some .boolean)] { frames := 2, cells := 0, slots := 0, locals := 49 } (va_Pc [.ref (G.2.1 25), .int (iI (sh)), .int (iI (a)), .int (iI (b))] (fun U => wu G S U)) (qW G ((mLy S sh a b).1) (bI (mLy S sh a b).2)) 0 0 (gA G) := by
  refine mt_of (by decide +kernel) (Nat.le_of_ble_eq_true rfl) ?_
  intro p e s m below meth c ls hadm hC hr hlk hex hw hl
  have hC : CallFix p m c b_md_lays 6 s _ tws "ChannelRulesModel" := hC
  have hl : lv_has ls 6 [(0, .ref (G.2.1 25)), (1, .int (iI (sh))), (2, .int (iI (a))), (3, .int (iI (b)))] := hl
  have l0 := mLy_u S sh a b
  have l1 := fun z => mLc_0 hI hsh hb hs hle (a := a) ha z
  refine lv_aload_n hC.1 hC.2.1 d_md_lays_0 rfl (lv_at hl 0 rfl) ?_
  refine lv_iload_n hC.1 hC.2.1 d_md_lays_1 rfl (lv_at hl 1 rfl) ?_
  refine lv_iload_n hC.1 hC.2.1 d_md_lays_2 rfl (lv_at hl 3 rfl) ?_
  refine go_V (ca_V (As := [.int (iI (sh)), .int (iI (b))]) (rest := []) hC hw (c_md_timesTo l G S sh b hI (by omega) (by omega) (by omega)) (cv_md_106 hC rfl rfl (Nat.le_of_ble_eq_true rfl) (Nat.le_of_ble_eq_true rfl)) (by decide) rfl rfl rfl hl.1 rfl (Nat.le_of_ble_eq_true rfl) d_md_lays_3 ⟨Nat.le_of_ble_eq_true rfl, Nat.le_of_ble_eq_true rfl⟩) hw (fun H locs hw => ?_)
  refine lv_aload_n hC.1 hC.2.1 d_md_lays_6 rfl (lv_at hl 0 rfl) ?_
  refine gf_md_43 hC hw d_md_lays_7 ?_
  refine lv_iconst (v := iI 0) hC.1 hC.2.1 d_md_lays_10 rfl ?_
  refine lv_iload_n hC.1 hC.2.1 d_md_lays_11 rfl (lv_at hl 1 rfl) ?_
  refine sc_37 0 (x := sh) hC hw (by decide) d_md_lays_12 (fun H locs hw => ?_)
  have hI_1 := Inv.up (q := 37) (i := 0) (x := sh) (mTt_I sh b hI (show 1 ≤ S 35 sh.toNat by omega)) (by omega) (show _ ≤ 11 from by omega)
  refine lv_aload_n hC.1 hC.2.1 d_md_lays_13 rfl (lv_at hl 0 rfl) ?_
  refine gf_md_53 hC hw d_md_lays_14 ?_
  refine lv_iconst (v := iI 0) hC.1 hC.2.1 d_md_lays_17 rfl ?_
  refine lv_iconst (v := iI 0) hC.1 hC.2.1 d_md_lays_18 rfl ?_
  refine sc_40 0 (x := 0) hC hw (by decide) d_md_lays_19 (fun H locs hw => ?_)
  have hI_2 := Inv.up (q := 40) (i := 0) (x := 0) hI_1 (by omega) (show _ ≤ 7 from by omega)
  refine lv_iload_n hC.1 hC.2.1 d_md_lays_20 rfl (lv_at hl 2 rfl) ?_
  refine lv_iload_n hC.1 hC.2.1 d_md_lays_21 rfl (lv_at hl 3 rfl) ?_
  refine ir_eq (tgt := 36) hC.1 hC.2.1 d_md_lays_22 (by decide) ⟨by omega, by omega⟩ ⟨by omega, by omega⟩ (fun c_3 => ?_) (fun c_3 => ?_)
  · skip
    refine lv_iconst (v := iI 0) hC.1 hC.2.1 d_md_lays_36 rfl ?_
    exact rt_WZ hC hr hlk hw (by decide) (by rw [l0, if_pos (by first | omega | (right; omega))] <;> rfl) (by rw [l0, if_pos (by first | omega | (right; omega))] <;> rfl) d_md_lays_37
  · skip
    refine lv_aload_n hC.1 hC.2.1 d_md_lays_25 rfl (lv_at hl 0 rfl) ?_
    refine gf_md_62 hC hw d_md_lays_26 ?_
    refine lv_iload_n hC.1 hC.2.1 d_md_lays_29 rfl (lv_at hl 2 rfl) ?_
    refine ld_43 hC hw (by omega) (by omega) d_md_lays_30 ?_
    have b_4 := iv_43 hI_2 a.toNat
    have zz : (s_up (s_up (mTt S sh b) 37 0 sh) 40 0 0) 43 a.toNat = mL0 S sh b 43 a.toNat := rfl
    refine ir_ldc hC 1000000 tw_679 (by decide +kernel) d_md_lays_31 ?_
    refine ir_lt (tgt := 38) hC.1 hC.2.1 d_md_lays_33 (by decide) ⟨by omega, by omega⟩ (by decide) (fun c_5 => ?_) (fun c_5 => ?_)
    · skip
      refine lv_iload_n hC.1 hC.2.1 d_md_lays_38 rfl (lv_at hl 2 rfl) ?_
      refine lv_istore (lv' := [(4, .int (iI (a))), (0, .ref (G.2.1 25)), (1, .int (iI (sh))), (2, .int (iI (a))), (3, .int (iI (b)))]) hC.1 hC.2.1 d_md_lays_39 hl (by decide) rfl (fun ls hl => ?_)
      have loop_41 : ∀ (nn : Nat) (n : Nat) (T : St) (x4 : Int), csd (mL0 S sh b 43) x4.toNat 8 < nn → mLc S sh b n T x4 → mLy S sh a b = (mLl sh b (8 - n) T x4, true) → ∀ (H : Heap) (locs : List Loc) (ls : Array Slot), wh G (T) s H locs → lv_has ls 6 [(4, .int (iI (x4))), (0, .ref (G.2.1 25)), (1, .int (iI (sh))), (2, .int (iI (a))), (3, .int (iI (b)))] → W p l e { frames := 2, cells := 0, slots := 0, locals := 49 } s m ([.ref (G.2.1 25), .int (iI (sh)), .int (iI (a)), .int (iI (b))] : List Value).toArray below meth c H locs 0 0 (MQ below (qW G ((mLy S sh a b).1) (bI (mLy S sh a b).2)) ([.ref (G.2.1 25), .int (iI (sh)), .int (iI (a)), .int (iI (b))] : List Value).toArray s 0 0 (gA G)) (F0 m 41 ls []) := by
        intro nn
        induction nn with
        | zero => intros; omega
        | succ nn ih_41 =>
          intro n T x4 hms_41  hv0 hv1 H locs ls hw hl
          have x0 := hv0.1
          have t0 := hv0.2.2.2.2.1
          have s5 : 1 ≤ T 35 sh.toNat := by rw [mL_35 hv0.2.2.1]; exact hs
          refine lv_iload hC.1 hC.2.1 d_md_lays_41 (lv_at hl 0 rfl) ?_
          refine lv_iload_n hC.1 hC.2.1 d_md_lays_43 rfl (lv_at hl 4 rfl) ?_
          refine ir_eq (tgt := 141) hC.1 hC.2.1 d_md_lays_44 (by decide) ⟨by omega, by omega⟩ ⟨by omega, by omega⟩ (fun c_6 => ?_) (fun c_6 => ?_)
          · skip
            refine lv_iconst (v := iI 1) hC.1 hC.2.1 d_md_lays_141 rfl ?_
            exact rt_WZ hC hr hlk hw (by decide) (by rw [hv1]; rfl) (by rw [hv1, mLl_s sh b n T x4 (by have := hv0.2.2.2.2.2; omega), if_pos (by assumption)]) d_md_lays_142
          · skip
            have stp := mL_step hI hsh hb hs hle hv0 (by assumption)
            have st2 := stp.2
            refine lv_aload_n hC.1 hC.2.1 d_md_lays_47 rfl (lv_at hl 1 rfl) ?_
            refine lv_iload_n hC.1 hC.2.1 d_md_lays_48 rfl (lv_at hl 2 rfl) ?_
            refine lv_iload hC.1 hC.2.1 d_md_lays_49 (lv_at hl 0 rfl) ?_
            refine go_R (ca_V (As := [.int (iI (sh)), .int (iI (x4))]) (rest := []) hC hw (c_md_next l G T sh x4 hv0.2.1 (by omega) (by omega) (by omega)) (cv_md_110 hC rfl rfl (Nat.le_of_ble_eq_true rfl) (Nat.le_of_ble_eq_true rfl)) (by decide) rfl rfl rfl hl.1 rfl (Nat.le_of_ble_eq_true rfl) d_md_lays_51 ⟨Nat.le_of_ble_eq_true rfl, Nat.le_of_ble_eq_true rfl⟩) ?_
            have r_7 := mNx_b T sh x4
            refine lv_istore (lv' := [(5, .int (iI (mNx T sh x4))), (4, .int (iI (x4))), (0, .ref (G.2.1 25)), (1, .int (iI (sh))), (2, .int (iI (a))), (3, .int (iI (b)))]) hC.1 hC.2.1 d_md_lays_54 hl (by decide) rfl (fun ls hl => ?_)
            refine lv_aload_n hC.1 hC.2.1 d_md_lays_56 rfl (lv_at hl 2 rfl) ?_
            refine gf_md_56 hC hw d_md_lays_57 ?_
            refine lv_aload_n hC.1 hC.2.1 d_md_lays_60 rfl (lv_at hl 2 rfl) ?_
            refine gf_md_53 hC hw d_md_lays_61 ?_
            refine lv_iconst (v := iI 0) hC.1 hC.2.1 d_md_lays_64 rfl ?_
            refine lc_40 0 hC hw (by decide) d_md_lays_65 ?_
            have b_8 := iv_40 hv0.2.1 0
            refine lv_iload hC.1 hC.2.1 d_md_lays_66 (lv_at hl 0 rfl) ?_
            refine st_41 (x := mNx T sh x4) (z := T 40 0) hC hw (by omega) (by omega) d_md_lays_68 (fun H locs hw => ?_)
            have hI_9 := Inv.up (q := 41) (i := (T 40 0).toNat) (x := mNx T sh x4) hv0.2.1 (by omega) (show _ ≤ 11 from by omega)
            refine lv_aload_n hC.1 hC.2.1 d_md_lays_69 rfl (lv_at hl 2 rfl) ?_
            refine gf_md_59 hC hw d_md_lays_70 ?_
            refine lv_aload_n hC.1 hC.2.1 d_md_lays_73 rfl (lv_at hl 2 rfl) ?_
            refine gf_md_53 hC hw d_md_lays_74 ?_
            refine lv_iconst (v := iI 0) hC.1 hC.2.1 d_md_lays_77 rfl ?_
            refine lc_40 0 hC hw (by decide) d_md_lays_78 ?_
            have b_10 := iv_40 hI_9 0
            have z1 : (s_up T 41 (T 40 0).toNat (mNx T sh x4)) 40 0 = T 40 0 := by simp [s_up_cell]
            refine lv_aload_n hC.1 hC.2.1 d_md_lays_79 rfl (lv_at hl 2 rfl) ?_
            refine gf_md_7 hC hw d_md_lays_80 ?_
            refine lv_iload hC.1 hC.2.1 d_md_lays_83 (lv_at hl 0 rfl) ?_
            refine ld_26 hC hw (by omega) (by omega) d_md_lays_85 ?_
            have b_11 := iv_26 hI_9 ((mNx T sh x4).toNat)
            have z2 : (s_up T 41 (T 40 0).toNat (mNx T sh x4)) 26 (mNx T sh x4).toNat = T 26 (mNx T sh x4).toNat := by simp [s_up_cell]
            refine lv_iload hC.1 hC.2.1 d_md_lays_86 (lv_at hl 1 rfl) ?_
            refine ir_ne (tgt := 95) hC.1 hC.2.1 d_md_lays_88 (by decide) ⟨by omega, by omega⟩ ⟨by omega, by omega⟩ (fun c_12 => ?_) (fun c_12 => ?_)
            · skip
              refine lv_iconst (v := iI 0) hC.1 hC.2.1 d_md_lays_95 rfl ?_
              refine st_42 (x := 0) (z := (s_up T 41 (T 40 0).toNat (mNx T sh x4)) 40 0) hC hw (by omega) (by omega) d_md_lays_96 (fun H locs hw => ?_)
              have hI_13 := Inv.up (q := 42) (i := ((s_up T 41 (T 40 0).toNat (mNx T sh x4)) 40 0).toNat) (x := 0) hI_9 (by omega) (show _ ≤ 1 from by omega)
              refine lv_aload_n hC.1 hC.2.1 d_md_lays_97 rfl (lv_at hl 2 rfl) ?_
              refine gf_md_53 hC hw d_md_lays_98 ?_
              refine lv_iconst (v := iI 0) hC.1 hC.2.1 d_md_lays_101 rfl ?_
              refine lv_dup2_11 hC.1 hC.2.1 d_md_lays_102 rfl rfl ?_
              refine lc_40 0 hC hw (by decide) d_md_lays_103 ?_
              have b_14 := iv_40 hI_13 0
              have z3 : (s_up (s_up T 41 (T 40 0).toNat (mNx T sh x4)) 42 ((s_up T 41 (T 40 0).toNat (mNx T sh x4)) 40 0).toNat 0) 40 0 = T 40 0 := by simp [s_up_cell]
              refine lv_iconst (v := iI 1) hC.1 hC.2.1 d_md_lays_104 rfl ?_
              refine ir_add hC.1 hC.2.1 d_md_lays_105 ?_
              refine sc_40 0 (x := ((s_up (s_up T 41 (T 40 0).toNat (mNx T sh x4)) 42 ((s_up T 41 (T 40 0).toNat (mNx T sh x4)) 40 0).toNat 0) 40 0) + 1) hC hw (by decide) d_md_lays_106 (fun H locs hw => ?_)
              have hI_15 := Inv.up (q := 40) (i := 0) (x := ((s_up (s_up T 41 (T 40 0).toNat (mNx T sh x4)) 42 ((s_up T 41 (T 40 0).toNat (mNx T sh x4)) 40 0).toNat 0) 40 0) + 1) hI_13 (by omega) (show _ ≤ 7 from by omega)
              refine lv_aload_n hC.1 hC.2.1 d_md_lays_107 rfl (lv_at hl 2 rfl) ?_
              refine gf_md_7 hC hw d_md_lays_108 ?_
              refine lv_iload hC.1 hC.2.1 d_md_lays_111 (lv_at hl 0 rfl) ?_
              refine ld_26 hC hw (by omega) (by omega) d_md_lays_113 ?_
              have b_16 := iv_26 hI_15 ((mNx T sh x4).toNat)
              have z4 : (s_up (s_up (s_up T 41 (T 40 0).toNat (mNx T sh x4)) 42 ((s_up T 41 (T 40 0).toNat (mNx T sh x4)) 40 0).toNat 0) 40 0 (((s_up (s_up T 41 (T 40 0).toNat (mNx T sh x4)) 42 ((s_up T 41 (T 40 0).toNat (mNx T sh x4)) 40 0).toNat 0) 40 0) + 1)) 26 (mNx T sh x4).toNat = T 26 (mNx T sh x4).toNat := by simp [s_up_cell]
              refine lv_iload hC.1 hC.2.1 d_md_lays_114 (lv_at hl 1 rfl) ?_
              refine ir_ne (tgt := 129) hC.1 hC.2.1 d_md_lays_116 (by decide) ⟨by omega, by omega⟩ ⟨by omega, by omega⟩ (fun c_17 => ?_) (fun c_17 => ?_)
              · skip
                refine lv_aload_n hC.1 hC.2.1 d_md_lays_129 rfl (lv_at hl 2 rfl) ?_
                refine gf_md_7 hC hw d_md_lays_130 ?_
                refine lv_iload hC.1 hC.2.1 d_md_lays_133 (lv_at hl 0 rfl) ?_
                refine ld_26 hC hw (by omega) (by omega) d_md_lays_135 ?_
                have b_18 := iv_26 hI_15 ((mNx T sh x4).toNat)
                refine lv_istore (lv' := [(4, .int (iI ((s_up (s_up (s_up T 41 (T 40 0).toNat (mNx T sh x4)) 42 ((s_up T 41 (T 40 0).toNat (mNx T sh x4)) 40 0).toNat 0) 40 0 (((s_up (s_up T 41 (T 40 0).toNat (mNx T sh x4)) 42 ((s_up T 41 (T 40 0).toNat (mNx T sh x4)) 40 0).toNat 0) 40 0) + 1)) 26 (mNx T sh x4).toNat))), (5, .int (iI (mNx T sh x4))), (0, .ref (G.2.1 25)), (1, .int (iI (sh))), (2, .int (iI (a))), (3, .int (iI (b)))]) hC.1 hC.2.1 d_md_lays_136 hl (by decide) rfl (fun ls hl => ?_)
                refine lv_goto (tgt := 41) hC.1 hC.2.1 d_md_lays_138 (by decide) ?_
                have zx : (s_up (s_up (s_up T 41 (T 40 0).toNat (mNx T sh x4)) 42 ((s_up T 41 (T 40 0).toNat (mNx T sh x4)) 40 0).toNat 0) 40 0 (((s_up (s_up T 41 (T 40 0).toNat (mNx T sh x4)) 42 ((s_up T 41 (T 40 0).toNat (mNx T sh x4)) 40 0).toNat 0) 40 0) + 1)) 26 (mNx T sh x4).toNat = mOe T (mNx T sh x4) x4 := (by unfold mOe; first | (rw [if_pos (by omega)]; simp [s_up_cell]; done) | (rw [if_neg (by omega), if_pos (by omega)]; simp [s_up_cell]; done) | (exfalso; omega))
                exact ih_41 (n + 1) (mSy T sh x4) _ (by rw [zx]; omega)  (by rw [zx]; exact stp.1) (by rw [zx, hv1, mLl_s sh b n T x4 (by omega), if_neg (by assumption)]) _ _ _ (by have q : mSy T sh x4 = s_up (s_up (s_up T 41 (T 40 0).toNat (mNx T sh x4)) 42 ((s_up T 41 (T 40 0).toNat (mNx T sh x4)) 40 0).toNat 0) 40 0 (((s_up (s_up T 41 (T 40 0).toNat (mNx T sh x4)) 42 ((s_up T 41 (T 40 0).toNat (mNx T sh x4)) 40 0).toNat 0) 40 0) + 1) := (by unfold mSy; first | (exfalso; omega) | (rw [if_pos (by omega)]; simp [s_up_cell]; done) | (rw [if_neg (by omega)]; simp [s_up_cell]; done)); rw [q]; exact hw) (lv_sub hl [0, 2, 3, 4, 5] rfl)
              · skip
                refine lv_aload_n hC.1 hC.2.1 d_md_lays_119 rfl (lv_at hl 2 rfl) ?_
                refine gf_md_13 hC hw d_md_lays_120 ?_
                refine lv_iload hC.1 hC.2.1 d_md_lays_123 (lv_at hl 0 rfl) ?_
                refine ld_27 hC hw (by omega) (by omega) d_md_lays_125 ?_
                have b_19 := iv_27 hI_15 ((mNx T sh x4).toNat)
                refine lv_goto (tgt := 136) hC.1 hC.2.1 d_md_lays_126 (by decide) ?_
                refine lv_istore (lv' := [(4, .int (iI ((s_up (s_up (s_up T 41 (T 40 0).toNat (mNx T sh x4)) 42 ((s_up T 41 (T 40 0).toNat (mNx T sh x4)) 40 0).toNat 0) 40 0 (((s_up (s_up T 41 (T 40 0).toNat (mNx T sh x4)) 42 ((s_up T 41 (T 40 0).toNat (mNx T sh x4)) 40 0).toNat 0) 40 0) + 1)) 27 (mNx T sh x4).toNat))), (5, .int (iI (mNx T sh x4))), (0, .ref (G.2.1 25)), (1, .int (iI (sh))), (2, .int (iI (a))), (3, .int (iI (b)))]) hC.1 hC.2.1 d_md_lays_136 hl (by decide) rfl (fun ls hl => ?_)
                refine lv_goto (tgt := 41) hC.1 hC.2.1 d_md_lays_138 (by decide) ?_
                have zx : (s_up (s_up (s_up T 41 (T 40 0).toNat (mNx T sh x4)) 42 ((s_up T 41 (T 40 0).toNat (mNx T sh x4)) 40 0).toNat 0) 40 0 (((s_up (s_up T 41 (T 40 0).toNat (mNx T sh x4)) 42 ((s_up T 41 (T 40 0).toNat (mNx T sh x4)) 40 0).toNat 0) 40 0) + 1)) 27 (mNx T sh x4).toNat = mOe T (mNx T sh x4) x4 := (by unfold mOe; first | (rw [if_pos (by omega)]; simp [s_up_cell]; done) | (rw [if_neg (by omega), if_pos (by omega)]; simp [s_up_cell]; done) | (exfalso; omega))
                exact ih_41 (n + 1) (mSy T sh x4) _ (by rw [zx]; omega)  (by rw [zx]; exact stp.1) (by rw [zx, hv1, mLl_s sh b n T x4 (by omega), if_neg (by assumption)]) _ _ _ (by have q : mSy T sh x4 = s_up (s_up (s_up T 41 (T 40 0).toNat (mNx T sh x4)) 42 ((s_up T 41 (T 40 0).toNat (mNx T sh x4)) 40 0).toNat 0) 40 0 (((s_up (s_up T 41 (T 40 0).toNat (mNx T sh x4)) 42 ((s_up T 41 (T 40 0).toNat (mNx T sh x4)) 40 0).toNat 0) 40 0) + 1) := (by unfold mSy; first | (exfalso; omega) | (rw [if_pos (by omega)]; simp [s_up_cell]; done) | (rw [if_neg (by omega)]; simp [s_up_cell]; done)); rw [q]; exact hw) (lv_sub hl [0, 2, 3, 4, 5] rfl)
            · skip
              refine lv_iconst (v := iI 1) hC.1 hC.2.1 d_md_lays_91 rfl ?_
              refine lv_goto (tgt := 96) hC.1 hC.2.1 d_md_lays_92 (by decide) ?_
              refine st_42 (x := 1) (z := (s_up T 41 (T 40 0).toNat (mNx T sh x4)) 40 0) hC hw (by omega) (by omega) d_md_lays_96 (fun H locs hw => ?_)
              have hI_20 := Inv.up (q := 42) (i := ((s_up T 41 (T 40 0).toNat (mNx T sh x4)) 40 0).toNat) (x := 1) hI_9 (by omega) (show _ ≤ 1 from by omega)
              refine lv_aload_n hC.1 hC.2.1 d_md_lays_97 rfl (lv_at hl 2 rfl) ?_
              refine gf_md_53 hC hw d_md_lays_98 ?_
              refine lv_iconst (v := iI 0) hC.1 hC.2.1 d_md_lays_101 rfl ?_
              refine lv_dup2_11 hC.1 hC.2.1 d_md_lays_102 rfl rfl ?_
              refine lc_40 0 hC hw (by decide) d_md_lays_103 ?_
              have b_21 := iv_40 hI_20 0
              have z3 : (s_up (s_up T 41 (T 40 0).toNat (mNx T sh x4)) 42 ((s_up T 41 (T 40 0).toNat (mNx T sh x4)) 40 0).toNat 1) 40 0 = T 40 0 := by simp [s_up_cell]
              refine lv_iconst (v := iI 1) hC.1 hC.2.1 d_md_lays_104 rfl ?_
              refine ir_add hC.1 hC.2.1 d_md_lays_105 ?_
              refine sc_40 0 (x := ((s_up (s_up T 41 (T 40 0).toNat (mNx T sh x4)) 42 ((s_up T 41 (T 40 0).toNat (mNx T sh x4)) 40 0).toNat 1) 40 0) + 1) hC hw (by decide) d_md_lays_106 (fun H locs hw => ?_)
              have hI_22 := Inv.up (q := 40) (i := 0) (x := ((s_up (s_up T 41 (T 40 0).toNat (mNx T sh x4)) 42 ((s_up T 41 (T 40 0).toNat (mNx T sh x4)) 40 0).toNat 1) 40 0) + 1) hI_20 (by omega) (show _ ≤ 7 from by omega)
              refine lv_aload_n hC.1 hC.2.1 d_md_lays_107 rfl (lv_at hl 2 rfl) ?_
              refine gf_md_7 hC hw d_md_lays_108 ?_
              refine lv_iload hC.1 hC.2.1 d_md_lays_111 (lv_at hl 0 rfl) ?_
              refine ld_26 hC hw (by omega) (by omega) d_md_lays_113 ?_
              have b_23 := iv_26 hI_22 ((mNx T sh x4).toNat)
              have z4 : (s_up (s_up (s_up T 41 (T 40 0).toNat (mNx T sh x4)) 42 ((s_up T 41 (T 40 0).toNat (mNx T sh x4)) 40 0).toNat 1) 40 0 (((s_up (s_up T 41 (T 40 0).toNat (mNx T sh x4)) 42 ((s_up T 41 (T 40 0).toNat (mNx T sh x4)) 40 0).toNat 1) 40 0) + 1)) 26 (mNx T sh x4).toNat = T 26 (mNx T sh x4).toNat := by simp [s_up_cell]
              refine lv_iload hC.1 hC.2.1 d_md_lays_114 (lv_at hl 1 rfl) ?_
              refine ir_ne (tgt := 129) hC.1 hC.2.1 d_md_lays_116 (by decide) ⟨by omega, by omega⟩ ⟨by omega, by omega⟩ (fun c_24 => ?_) (fun c_24 => ?_)
              · skip
                refine lv_aload_n hC.1 hC.2.1 d_md_lays_129 rfl (lv_at hl 2 rfl) ?_
                refine gf_md_7 hC hw d_md_lays_130 ?_
                refine lv_iload hC.1 hC.2.1 d_md_lays_133 (lv_at hl 0 rfl) ?_
                refine ld_26 hC hw (by omega) (by omega) d_md_lays_135 ?_
                have b_25 := iv_26 hI_22 ((mNx T sh x4).toNat)
                refine lv_istore (lv' := [(4, .int (iI ((s_up (s_up (s_up T 41 (T 40 0).toNat (mNx T sh x4)) 42 ((s_up T 41 (T 40 0).toNat (mNx T sh x4)) 40 0).toNat 1) 40 0 (((s_up (s_up T 41 (T 40 0).toNat (mNx T sh x4)) 42 ((s_up T 41 (T 40 0).toNat (mNx T sh x4)) 40 0).toNat 1) 40 0) + 1)) 26 (mNx T sh x4).toNat))), (5, .int (iI (mNx T sh x4))), (0, .ref (G.2.1 25)), (1, .int (iI (sh))), (2, .int (iI (a))), (3, .int (iI (b)))]) hC.1 hC.2.1 d_md_lays_136 hl (by decide) rfl (fun ls hl => ?_)
                refine lv_goto (tgt := 41) hC.1 hC.2.1 d_md_lays_138 (by decide) ?_
                have zx : (s_up (s_up (s_up T 41 (T 40 0).toNat (mNx T sh x4)) 42 ((s_up T 41 (T 40 0).toNat (mNx T sh x4)) 40 0).toNat 1) 40 0 (((s_up (s_up T 41 (T 40 0).toNat (mNx T sh x4)) 42 ((s_up T 41 (T 40 0).toNat (mNx T sh x4)) 40 0).toNat 1) 40 0) + 1)) 26 (mNx T sh x4).toNat = mOe T (mNx T sh x4) x4 := (by unfold mOe; first | (rw [if_pos (by omega)]; simp [s_up_cell]; done) | (rw [if_neg (by omega), if_pos (by omega)]; simp [s_up_cell]; done) | (exfalso; omega))
                exact ih_41 (n + 1) (mSy T sh x4) _ (by rw [zx]; omega)  (by rw [zx]; exact stp.1) (by rw [zx, hv1, mLl_s sh b n T x4 (by omega), if_neg (by assumption)]) _ _ _ (by have q : mSy T sh x4 = s_up (s_up (s_up T 41 (T 40 0).toNat (mNx T sh x4)) 42 ((s_up T 41 (T 40 0).toNat (mNx T sh x4)) 40 0).toNat 1) 40 0 (((s_up (s_up T 41 (T 40 0).toNat (mNx T sh x4)) 42 ((s_up T 41 (T 40 0).toNat (mNx T sh x4)) 40 0).toNat 1) 40 0) + 1) := (by unfold mSy; first | (exfalso; omega) | (rw [if_pos (by omega)]; simp [s_up_cell]; done) | (rw [if_neg (by omega)]; simp [s_up_cell]; done)); rw [q]; exact hw) (lv_sub hl [0, 2, 3, 4, 5] rfl)
              · skip
                refine lv_aload_n hC.1 hC.2.1 d_md_lays_119 rfl (lv_at hl 2 rfl) ?_
                refine gf_md_13 hC hw d_md_lays_120 ?_
                refine lv_iload hC.1 hC.2.1 d_md_lays_123 (lv_at hl 0 rfl) ?_
                refine ld_27 hC hw (by omega) (by omega) d_md_lays_125 ?_
                have b_26 := iv_27 hI_22 ((mNx T sh x4).toNat)
                refine lv_goto (tgt := 136) hC.1 hC.2.1 d_md_lays_126 (by decide) ?_
                refine lv_istore (lv' := [(4, .int (iI ((s_up (s_up (s_up T 41 (T 40 0).toNat (mNx T sh x4)) 42 ((s_up T 41 (T 40 0).toNat (mNx T sh x4)) 40 0).toNat 1) 40 0 (((s_up (s_up T 41 (T 40 0).toNat (mNx T sh x4)) 42 ((s_up T 41 (T 40 0).toNat (mNx T sh x4)) 40 0).toNat 1) 40 0) + 1)) 27 (mNx T sh x4).toNat))), (5, .int (iI (mNx T sh x4))), (0, .ref (G.2.1 25)), (1, .int (iI (sh))), (2, .int (iI (a))), (3, .int (iI (b)))]) hC.1 hC.2.1 d_md_lays_136 hl (by decide) rfl (fun ls hl => ?_)
                refine lv_goto (tgt := 41) hC.1 hC.2.1 d_md_lays_138 (by decide) ?_
                have zx : (s_up (s_up (s_up T 41 (T 40 0).toNat (mNx T sh x4)) 42 ((s_up T 41 (T 40 0).toNat (mNx T sh x4)) 40 0).toNat 1) 40 0 (((s_up (s_up T 41 (T 40 0).toNat (mNx T sh x4)) 42 ((s_up T 41 (T 40 0).toNat (mNx T sh x4)) 40 0).toNat 1) 40 0) + 1)) 27 (mNx T sh x4).toNat = mOe T (mNx T sh x4) x4 := (by unfold mOe; first | (rw [if_pos (by omega)]; simp [s_up_cell]; done) | (rw [if_neg (by omega), if_pos (by omega)]; simp [s_up_cell]; done) | (exfalso; omega))
                exact ih_41 (n + 1) (mSy T sh x4) _ (by rw [zx]; omega)  (by rw [zx]; exact stp.1) (by rw [zx, hv1, mLl_s sh b n T x4 (by omega), if_neg (by assumption)]) _ _ _ (by have q : mSy T sh x4 = s_up (s_up (s_up T 41 (T 40 0).toNat (mNx T sh x4)) 42 ((s_up T 41 (T 40 0).toNat (mNx T sh x4)) 40 0).toNat 1) 40 0 (((s_up (s_up T 41 (T 40 0).toNat (mNx T sh x4)) 42 ((s_up T 41 (T 40 0).toNat (mNx T sh x4)) 40 0).toNat 1) 40 0) + 1) := (by unfold mSy; first | (exfalso; omega) | (rw [if_pos (by omega)]; simp [s_up_cell]; done) | (rw [if_neg (by omega)]; simp [s_up_cell]; done)); rw [q]; exact hw) (lv_sub hl [0, 2, 3, 4, 5] rfl)
      exact loop_41 _ 0 _ _ (Nat.lt_succ_self _)  (l1 (by omega)) (by rw [l0, if_neg (by omega)]) _ _ _ hw (lv_sub hl [0, 1, 2, 3, 4] rfl)
    · skip
      refine lv_iconst (v := iI 0) hC.1 hC.2.1 d_md_lays_36 rfl ?_
      exact rt_WZ hC hr hlk hw (by decide) (by rw [l0, if_pos (by first | omega | (right; omega))] <;> rfl) (by rw [l0, if_pos (by first | omega | (right; omega))] <;> rfl) d_md_lays_37

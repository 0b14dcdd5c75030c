/-! call by call: a closed span ends slots -/
theorem km_cl {S T : St} (hI : Inv S) (h1 : S 1 0 = T 25 1) (h6 : S 0 6 = T 25 15) (h11 : S 11 = T 31) (q a b : Int) : kmX T q a b = kCl S q a b := by
  have i11 := iv_11 hI q.toNat
  unfold kmX kCl
  rw [← h1, ← h6, ← h11]
  by_cases c : wn q 0 (S 1 0 - 1) = true ∧ S 0 6 ≤ a ∧ a < b ∧ b ≤ 100000
  · rw [if_pos c, if_pos ⟨c.1, wn_T c.2.1 (by omega), wn_T (by omega) c.2.2.2, c.2.2.1⟩]
    by_cases c2 : S 11 q.toNat = 4
    · rw [if_pos c2, if_neg (by omega)]
    · rw [if_neg c2, if_pos (by omega)]
  · rw [if_neg c, if_neg (fun z => c (by
      have z1 := wn_t z.2.1
      have z2 := wn_t z.2.2.1
      exact ⟨z.1, z1.1, z.2.2.2, z2.2⟩))]
theorem mEn_39 {B F : St} (h : ∀ c, c ≠ 39 → F c = B c) (k : Int) (n : Nat) : mEn F k n = mEn B k n := by
  induction n with
  | zero => show F 38 _ = B 38 _; rw [h 38 (by decide)]
  | succ n ih => rw [mEn_s, mEn_s, ih, h 37 (by decide), h 41 (by decide), mTk_cg (h 28 (by decide)) (h 35 (by decide))]
theorem mEd_39 {B F : St} (h : ∀ c, c ≠ 39 → F c = B c) (q a b k : Int) (n : Nat) : mEd F q a b k n = mEd B q a b k n := by
  induction n with
  | zero => rfl
  | succ n ih =>
    rw [mEd_s, mEd_s, ih, h 41 (by decide), mEn_39 h]
    unfold mLv
    rw [mEn_39 h, h 37 (by decide), h 41 (by decide), mTk_cg (h 28 (by decide)) (h 35 (by decide))]
theorem mEd_iff (T : St) (q a b k : Int) (n : Nat) : mEd T q a b k n = true ↔ ∃ j : Nat, j < n ∧ T 41 (8 * k + (j : Int)).toNat = q ∧ mEn T k (j : Int).toNat < b ∧ a < mLv T k (j : Int) := by
  induction n with
  | zero => simp [mEd]
  | succ n ih =>
    rw [mEd_s, Bool.or_eq_true, ih, Bool.and_eq_true, Bool.and_eq_true, decide_eq_true_eq, decide_eq_true_eq, decide_eq_true_eq]
    constructor
    · rintro (⟨j, h1, h2⟩ | h2)
      · exact ⟨j, by omega, h2⟩
      · exact ⟨n, by omega, h2⟩
    · rintro ⟨j, h1, h2⟩
      by_cases e : j = n
      · subst e; exact Or.inr h2
      · exact Or.inl ⟨j, by omega, h2⟩
/-- whether a span ends a slot: in one state that holds both -/
theorem ed_eq {Z : St} {r : Nat} (h : Rx Z r) {q a b : Int} (hq : 0 ≤ q ∧ q < 12) : mEd Z q a b (r : Int) (Z 40 r).toNat = (!decide (stO Z (r : Int) q = -1) && shm a b (enA Z (r : Int) (stO Z (r : Int) q)) (lvA Z (r : Int) (stO Z (r : Int) q))) := by
  have i20 := iv_20 h.1 r
  have key : mEd Z q a b (r : Int) (Z 40 r).toNat = true ↔ (!decide (stO Z (r : Int) q = -1) && shm a b (enA Z (r : Int) (stO Z (r : Int) q)) (lvA Z (r : Int) (stO Z (r : Int) q))) = true := by
    rw [mEd_iff, ← rx_st h, Bool.and_eq_true]
    constructor
    · rintro ⟨j, h1, h2, h3, h4⟩
      obtain ⟨r1, r2, r3, r4, r5⟩ := rx_row h (i := j) (by omega)
      rw [ix8, ← r1] at h2
      rw [Int.toNat_natCast, en_eq h j (by omega)] at h3
      rw [lv_eq h j (by omega)] at h4
      have hst : stO Z (r : Int) q = (j : Int) := by
        unfold stO
        rw [ix12 r hq.1, ← h2, r5]
        omega
      rw [hst]
      exact ⟨(by simp <;> omega), (by simp [shm] <;> omega)⟩
    · rintro ⟨h1, h2⟩
      rcases h.2.2.2.2.2.2.2.1.2.2 q.toNat (by omega) with h0 | ⟨j, g1, g2, g3⟩
      · exfalso
        have hst : stO Z (r : Int) q = -1 := by unfold stO; rw [ix12 r hq.1, h0]; rfl
        rw [hst] at h1
        simp at h1
      · have hst : stO Z (r : Int) q = (j : Int) := by unfold stO; rw [ix12 r hq.1, g2]; omega
        rw [hst] at h2
        obtain ⟨r1, -⟩ := rx_row h (i := j) g1
        refine ⟨j, by omega, by rw [ix8, ← r1, g3]; omega, ?_, ?_⟩
        · rw [Int.toNat_natCast, en_eq h j (by omega)]
          simp [shm] at h2
          exact h2.2
        · rw [lv_eq h j g1]
          simp [shm] at h2
          exact h2.1
  cases hm : mEd Z q a b (r : Int) (Z 40 r).toNat with
  | true => exact (key.mp hm).symm
  | false =>
    cases hx : (!decide (stO Z (r : Int) q = -1) && shm a b (enA Z (r : Int) (stO Z (r : Int) q)) (lvA Z (r : Int) (stO Z (r : Int) q))) with
    | false => rfl
    | true => rw [key.mpr hx] at hm; cases hm
theorem mEd_ms (S : St) (q a b k : Int) (n : Nat) : mEd S q a b k n = mEd (ms S) q a b k n := by
  induction n with
  | zero => rfl
  | succ n ih => rw [mEd_s, mEd_s, ← ih, mEn_ms, mLv_ms]; rfl
theorem span_rel {S M : St} (h : Rel (Jn S M)) (hS : Inv S) (hM : Inv M) {q a b : Int} (hq : 0 ≤ q) (hs : S 11 q.toNat < 4) (ha : 0 ≤ a ∧ a ≤ 100000) (hb : 0 ≤ b ∧ b ≤ 100000) : Rel (Jn (aSp S q a b) (mSa M q a b)) := by
  obtain ⟨hI0, hA, hB, hC, hL, hR⟩ := h
  have h11 : S 11 = M 31 := by have := hB.2.2.2.2.2.1; rwa [J_lo (by decide), J_hi (by decide)] at this
  have lo : ∀ {c : Nat}, (c < 25 ∧ c ≠ 11 ∧ c ≠ 12 ∧ c ≠ 13) → Jn (aSp S q a b) (mSa M q a b) c = Jn S M c := fun h => by rw [J_lo h.1, J_lo h.1]; unfold aSp; rw [s_up_cell h.2.1, s_up_cell h.2.2.2, s_up_cell h.2.2.1]
  have hi : ∀ {c : Nat}, (¬ c < 25 ∧ c ≠ 31 ∧ c ≠ 32 ∧ c ≠ 33) → Jn (aSp S q a b) (mSa M q a b) c = Jn S M c := fun h => by rw [J_hi h.1, J_hi h.1]; unfold mSa; rw [s_up_cell h.2.1, s_up_cell h.2.2.2, s_up_cell h.2.2.1]
  have ex : (4 * q + M 31 q.toNat).toNat = (q * 4 + S 11 q.toNat).toNat := by rw [← h11]; congr 1; omega
  have d11 : Jn (aSp S q a b) (mSa M q a b) 11 = va_up (Jn S M 11) q.toNat (S 11 q.toNat + 1) := by rw [J_lo (by decide), J_lo (by decide)]; unfold aSp; rw [s_up_same, s_up_cell (by decide), s_up_cell (by decide)]
  have d12 : Jn (aSp S q a b) (mSa M q a b) 12 = va_up (Jn S M 12) (q * 4 + S 11 q.toNat).toNat a := by rw [J_lo (by decide), J_lo (by decide)]; unfold aSp; rw [s_up_cell (by decide), s_up_cell (by decide), s_up_same]
  have d13 : Jn (aSp S q a b) (mSa M q a b) 13 = va_up (Jn S M 13) (q * 4 + S 11 q.toNat).toNat b := by rw [J_lo (by decide), J_lo (by decide)]; unfold aSp; rw [s_up_cell (by decide), s_up_same, s_up_cell (by decide)]
  have d31 : Jn (aSp S q a b) (mSa M q a b) 31 = va_up (Jn S M 31) q.toNat (S 11 q.toNat + 1) := by rw [J_hi (by decide), J_hi (by decide)]; unfold mSa; rw [s_up_same, s_up_cell (by decide), s_up_cell (by decide), ← h11]
  have d32 : Jn (aSp S q a b) (mSa M q a b) 32 = va_up (Jn S M 32) (q * 4 + S 11 q.toNat).toNat a := by rw [J_hi (by decide), J_hi (by decide)]; unfold mSa; rw [ex, s_up_cell (by decide), s_up_cell (by decide), s_up_same]
  have d33 : Jn (aSp S q a b) (mSa M q a b) 33 = va_up (Jn S M 33) (q * 4 + S 11 q.toNat).toNat b := by rw [J_hi (by decide), J_hi (by decide)]; unfold mSa; rw [ex, s_up_cell (by decide), s_up_same, s_up_cell (by decide)]
  refine ⟨Jn_inv (aSp_I hS hs ha hb) (mSa_I hM (by rw [← h11]; exact hs) ha hb), ?_, ?_, ?_, ?_, ?_⟩
  · unfold RA
    rw [lo (c := 1) (by decide), lo (c := 2) (by decide), lo (c := 3) (by decide), lo (c := 0) (by decide), hi (c := 25) (by decide)]
    exact hA
  · unfold RB
    rw [lo (c := 6) (by decide), lo (c := 7) (by decide), lo (c := 8) (by decide), lo (c := 9) (by decide), lo (c := 10) (by decide), lo (c := 14) (by decide), lo (c := 15) (by decide), lo (c := 16) (by decide), hi (c := 26) (by decide), hi (c := 27) (by decide), hi (c := 28) (by decide), hi (c := 29) (by decide), hi (c := 30) (by decide), hi (c := 34) (by decide), hi (c := 35) (by decide), hi (c := 36) (by decide), d11, d12, d13, d31, d32, d33, ← hB.2.2.2.2.2.1, ← hB.2.2.2.2.2.2.1, ← hB.2.2.2.2.2.2.2.1]
    exact ⟨hB.1, hB.2.1, hB.2.2.1, hB.2.2.2.1, hB.2.2.2.2.1, rfl, rfl, rfl, hB.2.2.2.2.2.2.2.2⟩
  · unfold RC
    rw [lo (c := 17) (by decide), lo (c := 18) (by decide), lo (c := 19) (by decide), lo (c := 20) (by decide), hi (c := 37) (by decide), hi (c := 38) (by decide), hi (c := 39) (by decide), hi (c := 40) (by decide)]
    exact hC
  · unfold RL
    rw [lo (c := 1) (by decide), lo (c := 2) (by decide), lo (c := 8) (by decide), lo (c := 15) (by decide), lo (c := 10) (by decide), lo (c := 20) (by decide), lo (c := 18) (by decide), lo (c := 23) (by decide)]
    exact hL
  · intro k h1 h2
    rw [lo (c := 3) (by decide)] at h2
    obtain ⟨r1, r2⟩ := hR k h1 h2
    refine ⟨?_, by rw [lo (c := 18) (by decide), lo (c := 2) (by decide)]; exact r2⟩
    unfold Rw tTm
    rw [lo (c := 1) (by decide), lo (c := 8) (by decide), lo (c := 15) (by decide), lo (c := 18) (by decide), lo (c := 20) (by decide), lo (c := 21) (by decide), lo (c := 22) (by decide), lo (c := 23) (by decide), lo (c := 24) (by decide), hi (c := 41) (by decide), hi (c := 42) (by decide)]
    exact r1
theorem giv_rel {C M C' M' : St} (h : Rel (Jn C M)) (hI : Inv (Jn C' M')) (hc : ∀ c, c ≠ 17 → C' c = C c) (hm : ∀ c, c ≠ 39 → M' c = M c) (hg : C' 17 = M' 39) : Rel (Jn C' M') := by
  obtain ⟨hI0, hA, hB, hC, hL, hR⟩ := h
  have e : ∀ {c : Nat}, (c ≠ 17 ∧ c ≠ 39) → Jn C' M' c = Jn C M c := by
    intro c hh
    unfold Jn
    rw [hc c hh.1, hm c hh.2]
  refine ⟨hI, ?_, ?_, ?_, ?_, ?_⟩
  · unfold RA
    rw [e (c := 1) (by decide), e (c := 2) (by decide), e (c := 3) (by decide), e (c := 0) (by decide), e (c := 25) (by decide)]
    exact hA
  · unfold RB
    rw [e (c := 6) (by decide), e (c := 7) (by decide), e (c := 8) (by decide), e (c := 9) (by decide), e (c := 10) (by decide), e (c := 11) (by decide), e (c := 12) (by decide), e (c := 13) (by decide), e (c := 14) (by decide), e (c := 15) (by decide), e (c := 16) (by decide), e (c := 26) (by decide), e (c := 27) (by decide), e (c := 28) (by decide), e (c := 29) (by decide), e (c := 30) (by decide), e (c := 31) (by decide), e (c := 32) (by decide), e (c := 33) (by decide), e (c := 34) (by decide), e (c := 35) (by decide), e (c := 36) (by decide)]
    exact hB
  · unfold RC
    rw [J_lo (show 17 < 25 by decide), J_hi (show ¬ 39 < 25 by decide), hg, e (c := 18) (by decide), e (c := 19) (by decide), e (c := 20) (by decide), e (c := 37) (by decide), e (c := 38) (by decide), e (c := 40) (by decide)]
    exact ⟨rfl, hC.2⟩
  · unfold RL
    rw [e (c := 1) (by decide), e (c := 2) (by decide), e (c := 8) (by decide), e (c := 15) (by decide), e (c := 10) (by decide), e (c := 20) (by decide), e (c := 18) (by decide), e (c := 23) (by decide)]
    exact hL
  · intro k h1 h2
    rw [e (c := 3) (by decide)] at h2
    obtain ⟨r1, r2⟩ := hR k h1 h2
    refine ⟨?_, by rw [e (c := 18) (by decide), e (c := 2) (by decide)]; exact r2⟩
    unfold Rw tTm
    rw [e (c := 1) (by decide), e (c := 8) (by decide), e (c := 15) (by decide), e (c := 18) (by decide), e (c := 20) (by decide), e (c := 21) (by decide), e (c := 22) (by decide), e (c := 23) (by decide), e (c := 24) (by decide), e (c := 41) (by decide), e (c := 42) (by decide)]
    exact r1
theorem end_go {A B : St} (h : Rel (Jn A B)) (hA0 : Inv A) (hB0 : Inv B) {q a b : Int} (hq : 0 ≤ q ∧ q < 12) (m : Nat) (hm : (m : Int) ≤ A 3 0) : eSt A q a b m 17 = mCs B q a b m 39 ∧ eCt A q a b m = mCc B q a b m := by
  induction m with
  | zero =>
    have := h.2.2.2.1.1
    rw [J_lo (by decide), J_hi (by decide)] at this
    exact ⟨this, rfl⟩
  | succ m ih =>
    obtain ⟨h1, h2⟩ := ih (by omega)
    have hec : ∀ c, c ≠ 17 → eSt A q a b m c = A c := fun c hc => funext fun j => eSt_ne A q a b m hc
    have hmc : ∀ c, c ≠ 39 → mCs B q a b m c = B c := fun c hc => mCs_ne B q a b m hc
    have hx := rel_rx h (k := m + 1) (by omega) (by rw [J_lo (by decide)]; omega)
    have hed := ed_eq hx (q := q) (a := a) (b := b) hq
    rw [mEd_ms, ms_J, ← mEd_ms, J_hi (show ¬ 40 < 25 by decide)] at hed
    have hstO : stO (Jn A B) ((m + 1 : Nat) : Int) q = stO (eSt A q a b m) ((m + 1 : Nat) : Int) q := by unfold stO; rw [J_lo (by decide), hec 24 (by decide)]
    have hen : ∀ i, enA (Jn A B) ((m + 1 : Nat) : Int) i = enA (eSt A q a b m) ((m + 1 : Nat) : Int) i := fun i => by unfold enA; rw [J_lo (show 19 < 25 by decide), J_lo (show 23 < 25 by decide), hec 19 (by decide), hec 23 (by decide)]
    have hlv : ∀ i, lvA (Jn A B) ((m + 1 : Nat) : Int) i = lvA (eSt A q a b m) ((m + 1 : Nat) : Int) i := fun i => by unfold lvA; rw [J_lo (show 19 < 25 by decide), J_lo (show 23 < 25 by decide), hec 19 (by decide), hec 23 (by decide)]
    rw [hstO, hen, hlv] at hed
    have ecast : (m : Int) + 1 = ((m + 1 : Nat) : Int) := by omega
    have hee : mEe (mCs B q a b m) q a b ((m : Int) + 1) = eCn (eSt A q a b m) q a b ((m : Int) + 1) := by
      unfold mEe eCn
      rw [ecast, Int.toNat_natCast, ← h1, mEd_39 hmc, hmc 40 (by decide), hed]
    have i39 := iv_39 (mCs_I hB0 q a b m) (m + 1)
    rw [eSt_s, mCs_s, eCt_s, mCc_s, hee, ecast, Int.toNat_natCast]
    by_cases hc : eCn (eSt A q a b m) q a b ((m + 1 : Nat) : Int) = true
    · rw [if_pos hc, if_pos hc, if_pos hc, s_up_same, s_up_same, h1, if_neg (fun z => by rw [hc] at z; exact Bool.noConfusion z.2)]
      exact ⟨rfl, by omega⟩
    · rw [if_neg hc, if_neg hc, if_neg hc, s_up_same]
      refine ⟨?_, by omega⟩
      have hcf : eCn (eSt A q a b m) q a b ((m + 1 : Nat) : Int) = false := by simpa using hc
      rw [h1]
      funext j
      unfold va_up
      by_cases e : j = m + 1
      · rw [if_pos e, e]
        by_cases z : mCs B q a b m 39 (m + 1) = 0
        · rw [if_neg (fun y => y.1 z), z]
        · rw [if_pos ⟨z, hcf⟩]; omega
      · rw [if_neg e]
theorem e_close {S : St} (h : Rel S) {q a b : Int} (hk : kCl S q a b = 0) {T : St} (hT : Sm (eSt (aSp S q a b) q a b (aSp S q a b 3 0).toNat) T) : Inv T ∧ Rel (mCs (mSa (s_up T 25 0 0) q a b) q a b (T 25 16).toNat) ∧ mCc (mSa (s_up T 25 0 0) q a b) q a b (T 25 16).toNat = eCt (aSp S q a b) q a b (aSp S q a b 3 0).toNat := by
  have i6 := iv_0 h.1 6
  have i1 := iv_1 h.1 0
  have i3 := iv_3 h.1 0
  have hb : (0 ≤ q ∧ q ≤ S 1 0 - 1) ∧ S 0 6 ≤ a ∧ a < b ∧ b ≤ 100000 ∧ S 11 q.toNat < 4 := by
    unfold kCl at hk
    split at hk
    · rename_i c
      split at hk
      · rename_i c2; exact ⟨wn_t c.1, c.2.1, c.2.2.1, c.2.2.2, c2⟩
      · omega
    · omega
  have hAI : Inv (aSp S q a b) := aSp_I h.1 hb.2.2.2.2 (by omega) (by omega)
  have hCI := eSt_I hAI q a b (aSp S q a b 3 0).toNat
  have hahi : ∀ c, 25 ≤ c → aSp S q a b c = S c := fun c hc => by unfold aSp; rw [s_up_cell (by omega), s_up_cell (by omega), s_up_cell (by omega)]
  have hM := mb_of h (C := eSt (aSp S q a b) q a b (aSp S q a b 3 0).toNat) (fun c hc => by
    rw [show eSt (aSp S q a b) q a b (aSp S q a b 3 0).toNat c = aSp S q a b c from funext fun j => eSt_ne _ q a b _ (by omega), hahi c hc]) hCI hT
  have hr := jn_mb h hM
  have hsp := span_rel hr h.1 hM.1 (q := q) (a := a) (b := b) hb.1.1 hb.2.2.2.2 (by omega) (by omega)
  have hBI : Inv (mSa (s_up T 25 0 0) q a b) := mSa_I hM.1 (by rw [hM.2.1 31 (by decide) (by decide), ← h.2.2.1.2.2.2.2.2.1]; exact hb.2.2.2.2) (by omega) (by omega)
  have h3 : aSp S q a b 3 0 = S 3 0 := by unfold aSp; rw [s_up_cell (by decide), s_up_cell (by decide), s_up_cell (by decide)]
  have hT16 : T 25 16 = S 3 0 := by
    have := hM.2.2 16 (by decide)
    rw [s_up_ne (by decide)] at this
    rw [this, h.2.1.2.2.1]
  rw [hT16, h3]
  obtain ⟨g1, g2⟩ := end_go hsp hAI hBI (q := q) (a := a) (b := b) (by omega) (S 3 0).toNat (by rw [h3]; omega)
  refine ⟨hT.inv hCI, ?_, g2.symm⟩
  have hfin := giv_rel hsp (C' := eSt (aSp S q a b) q a b (S 3 0).toNat) (M' := mCs (mSa (s_up T 25 0 0) q a b) q a b (S 3 0).toNat) (Jn_inv (eSt_I hAI q a b _) (mCs_I hBI q a b _)) (fun c hc => funext fun j => eSt_ne _ q a b _ hc) (fun c hc => mCs_ne _ q a b _ hc) g1
  rw [Jn_self (fun c hc => by
    rw [mCs_ne _ q a b _ (by omega)]
    unfold mSa
    rw [s_up_cell (by omega), s_up_cell (by omega), s_up_cell (by omega), s_up_cell (by omega), hT c (by omega), h3])] at hfin
  exact hfin

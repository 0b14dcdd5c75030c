/-! the plan: class and reference lay the same route -/
theorem rx1_cg {d e : Nat → Int} {a b : Nat} {t : Int} (h : ∀ v, v < 8 → d v = e v) (ha : a < 8) (hb : b < 8) : ∀ v, v < 8 → rx1 a b t d v = rx1 a b t e v := by
  intro v hv
  unfold rx1 va_up
  rw [h a ha, h b hb, h v hv]
theorem rxP_cg {fa fb : Nat → Nat} {ft : Nat → Bool} {tt : Nat → Int} {d e : Nat → Int} (h : ∀ v, v < 8 → d v = e v) (n : Nat) (hn : ∀ k, k < n → fa k < 8 ∧ fb k < 8) : ∀ v, v < 8 → rxP fa fb ft tt d n v = rxP fa fb ft tt e n v := by
  induction n with
  | zero => exact h
  | succ n ih =>
    have h1 := hn n (by omega)
    have h2 := ih (fun k hk => hn k (by omega))
    intro v hv
    rw [rxP_s, rxP_s]
    split
    · rw [rx2_e, rx2_e]
      exact rx1_cg (rx1_cg h2 h1.1 h1.2) h1.2 h1.1 v hv
    · exact h2 v hv
theorem rxR_cg {fa fb : Nat → Nat} {ft : Nat → Bool} {tt : Nat → Int} {n : Nat} {d e : Nat → Int} (h : ∀ v, v < 8 → d v = e v) (hn : ∀ k, k < n → fa k < 8 ∧ fb k < 8) (r : Nat) : ∀ v, v < 8 → rxR fa fb ft tt n d r v = rxR fa fb ft tt n e r v := by
  induction r with
  | zero => exact h
  | succ r ih => rw [rxR_s, rxR_s]; exact rxP_cg ih n hn
theorem sBy_4 (S : St) (q t : Int) : sBy S q t 4 = rx2 (S 6 q.toNat).toNat (S 7 q.toNat).toNat t (S 4) := by
  unfold sBy rx2
  rw [s_up_same]
  have e : sB1 S q t 4 = rx1 (S 6 q.toNat).toNat (S 7 q.toNat).toNat t (S 4) := by unfold sB1 rx1; rw [s_up_same]
  rw [e]
def cfa (S : St) (q : Nat) : Nat := (S 6 q).toNat
def cfb (S : St) (q : Nat) : Nat := (S 7 q).toNat
def cft (S : St) (sh : Int) (q : Nat) : Bool := fts S sh (q : Int)
def ctt (S : St) (sh : Int) (q : Nat) : Int := tTm S sh (q : Int)
theorem tTm_cg {S T : St} (h8 : T 8 = S 8) (h15 : T 15 = S 15) (sh q : Int) : tTm T sh q = tTm S sh q := by unfold tTm; rw [h8, h15]
theorem fts_cg {S T : St} (h9 : T 9 = S 9) (h14 : T 14 = S 14) (sh q : Int) : fts T sh q = fts S sh q := by unfold fts; rw [h9, h14]
theorem rlp_4 (T : St) (sh : Int) (k : Nat) : rlp T sh k 4 = rxP (cfa T) (cfb T) (cft T sh) (ctt T sh) (T 4) k := by
  induction k with
  | zero => rfl
  | succ k ih =>
    rw [rlp_s, rxP_s, fts_cg (rlp_ne T sh k (by decide)) (rlp_ne T sh k (by decide))]
    by_cases hc : fts T sh (k : Int) = true
    · rw [if_pos hc, if_pos (show cft T sh k = true from hc), sBy_4, ih, rlp_ne _ _ _ (show 6 ≠ 4 by decide), rlp_ne _ _ _ (show 7 ≠ 4 by decide), tTm_cg (rlp_ne T sh k (by decide)) (rlp_ne T sh k (by decide)), Int.toNat_natCast]
      rfl
    · rw [if_neg hc, if_neg (show ¬ cft T sh k = true from hc), ih]
theorem rlr_4 (T : St) (sh : Int) (r : Nat) : rlr T sh r 4 = rxR (cfa T) (cfb T) (cft T sh) (ctt T sh) (T 1 0).toNat (T 4) r := by
  induction r with
  | zero => rfl
  | succ r ih =>
    show rlp (rlr T sh r) sh (rlr T sh r 1 0).toNat 4 = _
    rw [rlp_4, rxR_s, ih]
    have e1 : cfa (rlr T sh r) = cfa T := by funext q; unfold cfa; rw [rlr_ne _ _ _ (by decide)]
    have e2 : cfb (rlr T sh r) = cfb T := by funext q; unfold cfb; rw [rlr_ne _ _ _ (by decide)]
    have e3 : cft (rlr T sh r) sh = cft T sh := by funext q; unfold cft; exact fts_cg (rlr_ne T sh r (by decide)) (rlr_ne T sh r (by decide)) _ _
    have e4 : ctt (rlr T sh r) sh = ctt T sh := by funext q; unfold ctt; exact tTm_cg (rlr_ne T sh r (by decide)) (rlr_ne T sh r (by decide)) _ _
    rw [e1, e2, e3, e4, rlr_ne _ _ _ (show 1 ≠ 4 by decide)]
theorem mt1_4 (S : St) (b : Int) (k j : Nat) : mt1 S b k 4 j = if j < k then (if (j : Int) = b then 0 else 1000000) else S 4 j := by
  induction k with
  | zero => rfl
  | succ k ih =>
    rw [mt1_s, s_up_same]
    unfold va_up
    by_cases e : j = k
    · subst e
      rw [if_pos rfl, if_pos (show j < j + 1 by omega)]
    · rw [if_neg e, ih]
      by_cases h : j < k
      · rw [if_pos h, if_pos (show j < k + 1 by omega)]
      · rw [if_neg h, if_neg (show ¬ j < k + 1 by omega)]
/-- the data of both, alike -/
def Dat (S M : St) : Prop := S 1 0 = M 25 1 ∧ S 6 = M 26 ∧ S 7 = M 27 ∧ S 8 = M 28 ∧ S 9 = M 29 ∧ S 14 = M 34 ∧ S 15 = M 35
def cT0 (S : St) (sh b : Int) : St := mtl (sPk S sh 12) sh b
theorem cT0_ne (S : St) (sh b : Int) {c : Nat} (h4 : c ≠ 4) (h1 : c ≠ 18) (h2 : c ≠ 19) (h3 : c ≠ 20) (h5 : c ≠ 24) : cT0 S sh b c = S c := by
  unfold cT0
  rw [mtl_ne _ _ _ h4, sPk_ne _ _ _ h1 h2 h3 h5]
theorem tim_eq {S M : St} (hI : Inv S) (hJ : Inv M) (hd : Dat S M) {sh b : Int} (hb : 0 ≤ b ∧ b ≤ 7) (hs : 1 ≤ S 15 sh.toNat) (hle : ∀ j : Nat, (j : Int) < S 1 0 → 1 ≤ S 8 j) : ∀ v, v < 8 → cT0 S sh b 4 v = mTt M sh b 43 v := by
  obtain ⟨d1, d6, d7, d8, d9, d14, d15⟩ := hd
  have hs' : 1 ≤ M 35 sh.toNat := by rw [← d15]; exact hs
  have hle' : ∀ j : Nat, (j : Int) < M 25 1 → 1 ≤ M 28 j := by rw [← d1, ← d8]; exact hle
  have hpne : ∀ {c : Nat}, c ≠ 18 → c ≠ 19 → c ≠ 20 → c ≠ 24 → sPk S sh 12 c = S c := fun h1 h2 h3 h4 => sPk_ne _ _ _ h1 h2 h3 h4
  rw [(mT_7 hJ hb hs' hle').1]
  unfold cT0 mtl
  rw [rlr_4]
  have e1 : cfa (mt1 (sPk S sh 12) b 8) = mfa M := by funext q; unfold cfa mfa; rw [mt1_ne _ _ _ (by decide), hpne (by decide) (by decide) (by decide) (by decide), d6]
  have e2 : cfb (mt1 (sPk S sh 12) b 8) = mfb M := by funext q; unfold cfb mfb; rw [mt1_ne _ _ _ (by decide), hpne (by decide) (by decide) (by decide) (by decide), d7]
  have e3 : cft (mt1 (sPk S sh 12) b 8) sh = mft M sh := by
    funext q
    unfold cft mft fts
    rw [mt1_ne _ _ _ (show 14 ≠ 4 by decide), mt1_ne _ _ _ (show 9 ≠ 4 by decide), hpne (show 14 ≠ 18 by decide) (by decide) (by decide) (by decide), hpne (show 9 ≠ 18 by decide) (by decide) (by decide) (by decide), d14, d9, Int.toNat_natCast, ← decide_not]
    exact dec_iff (by omega)
  have e4 : ctt (mt1 (sPk S sh 12) b 8) sh = mtt M sh := by
    funext q
    unfold ctt mtt
    rw [tTm_cg (S := S) (by rw [mt1_ne _ _ _ (by decide), hpne (by decide) (by decide) (by decide) (by decide)]) (by rw [mt1_ne _ _ _ (by decide), hpne (by decide) (by decide) (by decide) (by decide)])]
    have h1 := iv_8 hI (q : Int).toNat
    unfold tTm mTk
    rw [if_neg (show ¬ S 15 sh.toNat < 1 by omega), ceil_eq h1.1 hs, d8, d15]
  rw [e1, e2, e3, e4, mt1_ne _ _ _ (show 1 ≠ 4 by decide), hpne (by decide) (by decide) (by decide) (by decide), d1]
  refine rxR_cg (fun v hv => ?_) (fun k _ => ?_) 7
  · rw [mt1_4, mm1_43, if_pos hv, if_pos hv]
  · have h1 := iv_26 hJ k
    have h2 := iv_27 hJ k
    unfold mfa mfb
    omega
theorem oe_eq {T M : St} (h6 : T 6 = M 26) (h7 : T 7 = M 27) (q t : Int) : oEnd T q t = mOe M q t := by
  unfold oEnd mOe
  rw [h6, h7]
theorem nx_go {T M : St} (hJ : Inv M) (h6 : T 6 = M 26) (h7 : T 7 = M 27) (h9 : T 9 = M 29) (h14 : T 14 = M 34) {sh x : Int} (ht : ∀ q : Int, tTm T sh q = mTk M sh q) (hx : 0 ≤ x ∧ x ≤ 7) (h4 : ∀ v, v < 8 → T 4 v = M 43 v) (q n : Nat) : nxF T sh x q n = mNf M sh x q n := by
  induction n generalizing q with
  | zero => rfl
  | succ n ih =>
    unfold nxF
    rw [mNf_u, ih, oe_eq h6 h7, ht]
    have hm1 := iv_26 hJ (q : Int).toNat
    have hm2 := iv_27 hJ (q : Int).toNat
    have hr : mOe M (q : Int) x ≤ 7 ∧ -1 ≤ mOe M (q : Int) x := by unfold mOe; constructor <;> repeat (first | omega | split)
    have hf : fts T sh (q : Int) = true ↔ ¬ M 29 (q : Int).toNat < M 34 sh.toNat := by
      unfold fts
      rw [decide_eq_true_eq, h14, h9]
      omega
    by_cases c0 : mOe M (q : Int) x < 0
    · rw [if_neg (fun z => z.1 (by omega)), if_neg (fun z => z.1 c0)]
    · rw [h4 x.toNat (by omega), h4 (mOe M (q : Int) x).toNat (by omega)]
      by_cases c1 : ¬ M 29 (q : Int).toNat < M 34 sh.toNat
      · by_cases c2 : M 43 x.toNat = mTk M sh (q : Int) + M 43 (mOe M (q : Int) x).toNat
        · rw [if_pos ⟨by omega, hf.mpr c1, c2⟩, if_pos ⟨c0, c1, c2⟩]
        · rw [if_neg (fun z => c2 z.2.2), if_neg (fun z => c2 z.2.2)]
      · rw [if_neg (fun z => c1 (hf.mp z.2.1)), if_neg (fun z => c1 z.2.1)]
theorem nx_eq {T M : St} (hJ : Inv M) (h1 : T 1 0 = M 25 1) (h6 : T 6 = M 26) (h7 : T 7 = M 27) (h9 : T 9 = M 29) (h14 : T 14 = M 34) {sh x : Int} (ht : ∀ q : Int, tTm T sh q = mTk M sh q) (hx : 0 ≤ x ∧ x ≤ 7) (h4 : ∀ v, v < 8 → T 4 v = M 43 v) (hlo : 0 < M 43 x.toNat) (hhi : M 43 x.toNat < 1000000) : nxP T sh x = mNx M sh x := by
  unfold nxP mNx
  rw [h4 x.toNat (by omega), if_neg (by omega), if_pos hlo, h1]
  exact nx_go hJ h6 h7 h9 h14 ht hx h4 0 _

/-! least times: rounds of shortening over eight points come to rest within seven -/
def rx1 (a b : Nat) (t : Int) (d : Nat → Int) : Nat → Int := va_up d a (min (d a) (d b + t))
def rx2 (a b : Nat) (t : Int) (d : Nat → Int) : Nat → Int := va_up (rx1 a b t d) b (min (rx1 a b t d b) (rx1 a b t d a + t))
def rxP (fa fb : Nat → Nat) (ft : Nat → Bool) (tt : Nat → Int) (d : Nat → Int) : Nat → (Nat → Int)
  | 0 => d
  | q + 1 => if ft q = true then rx2 (fa q) (fb q) (tt q) (rxP fa fb ft tt d q) else rxP fa fb ft tt d q
def rxR (fa fb : Nat → Nat) (ft : Nat → Bool) (tt : Nat → Int) (n : Nat) (d : Nat → Int) : Nat → (Nat → Int)
  | 0 => d
  | r + 1 => rxP fa fb ft tt (rxR fa fb ft tt n d r) n
theorem rxP_s (fa fb : Nat → Nat) (ft : Nat → Bool) (tt : Nat → Int) (d : Nat → Int) (q : Nat) : rxP fa fb ft tt d (q + 1) = if ft q = true then rx2 (fa q) (fb q) (tt q) (rxP fa fb ft tt d q) else rxP fa fb ft tt d q := rfl
theorem rxR_s (fa fb : Nat → Nat) (ft : Nat → Bool) (tt : Nat → Int) (n : Nat) (d : Nat → Int) (r : Nat) : rxR fa fb ft tt n d (r + 1) = rxP fa fb ft tt (rxR fa fb ft tt n d r) n := rfl
theorem rx1_le (a b : Nat) (t : Int) (d : Nat → Int) (v : Nat) : rx1 a b t d v ≤ d v := by
  unfold rx1 va_up
  split
  · rename_i h; rw [h]; omega
  · omega
theorem rx2_e (a b : Nat) (t : Int) (d : Nat → Int) : rx2 a b t d = rx1 b a t (rx1 a b t d) := rfl
theorem rx2_le (a b : Nat) (t : Int) (d : Nat → Int) (v : Nat) : rx2 a b t d v ≤ d v := by
  rw [rx2_e]
  exact Int.le_trans (rx1_le _ _ _ _ _) (rx1_le _ _ _ _ _)
theorem rxP_le (fa fb : Nat → Nat) (ft : Nat → Bool) (tt : Nat → Int) (d : Nat → Int) (q v : Nat) : rxP fa fb ft tt d q v ≤ d v := by
  induction q with
  | zero => exact Int.le_refl _
  | succ q ih =>
    rw [rxP_s]
    split
    · exact Int.le_trans (rx2_le _ _ _ _ _) ih
    · exact ih
theorem rxP_mono (fa fb : Nat → Nat) (ft : Nat → Bool) (tt : Nat → Int) (d : Nat → Int) (q k v : Nat) : rxP fa fb ft tt d (q + k) v ≤ rxP fa fb ft tt d q v := by
  induction k with
  | zero => exact Int.le_refl _
  | succ k ih =>
    show rxP fa fb ft tt d (q + k + 1) v ≤ _
    rw [rxP_s]
    split
    · exact Int.le_trans (rx2_le _ _ _ _ _) ih
    · exact ih
theorem rxR_mono (fa fb : Nat → Nat) (ft : Nat → Bool) (tt : Nat → Int) (n : Nat) (d : Nat → Int) (r k v : Nat) : rxR fa fb ft tt n d (r + k) v ≤ rxR fa fb ft tt n d r v := by
  induction k with
  | zero => exact Int.le_refl _
  | succ k ih =>
    show rxR fa fb ft tt n d (r + k + 1) v ≤ _
    rw [rxR_s]
    exact Int.le_trans (rxP_le _ _ _ _ _ _ _) ih
theorem rx1_0 {a b : Nat} {t : Int} {d : Nat → Int} (ht : 0 ≤ t) (hd : ∀ v, 0 ≤ d v) (v : Nat) : 0 ≤ rx1 a b t d v := by
  have h1 := hd a
  have h2 := hd b
  unfold rx1 va_up
  split
  · omega
  · exact hd v
theorem rx1_out {a b : Nat} {t : Int} {d : Nat → Int} {v : Nat} (h : v ≠ a) : rx1 a b t d v = d v := by
  unfold rx1 va_up
  rw [if_neg h]
/-- a link of a piece: from u one comes to v -/
def lkd (fa fb : Nat → Nat) (q u v : Nat) : Prop := (fa q = v ∧ fb q = u) ∨ (fb q = v ∧ fa q = u)
/-- every time below F is 0 at the end, or comes by a link -/
def atd (fa fb : Nat → Nat) (ft : Nat → Bool) (tt : Nat → Int) (n : Nat) (b0 : Nat) (F : Int) (d : Nat → Int) : Prop :=
  ∀ v, v < 8 → d v < F → v = b0 ∨ ∃ q u, q < n ∧ ft q = true ∧ lkd fa fb q u v ∧ d u + tt q ≤ d v
theorem atd_1 {fa fb : Nat → Nat} {ft : Nat → Bool} {tt : Nat → Int} {n b0 : Nat} {F : Int} {d : Nat → Int} (h : atd fa fb ft tt n b0 F d) (q a b : Nat) (hq : q < n) (hf : ft q = true) (hl : lkd fa fb q b a) : atd fa fb ft tt n b0 F (rx1 a b (tt q) d) := by
  intro v hv hF
  have hle := rx1_le a b (tt q) d
  by_cases hc : rx1 a b (tt q) d v = d v
  · rcases h v hv (by omega) with h1 | ⟨q1, u, h1, h2, h3, h4⟩
    · exact Or.inl h1
    · exact Or.inr ⟨q1, u, h1, h2, h3, by have := hle u; omega⟩
  · have hva : v = a := by
      by_cases e : v = a
      · exact e
      · exact absurd (rx1_out e) hc
    subst hva
    have e : rx1 v b (tt q) d v = d b + tt q := by
      unfold rx1 va_up at hc ⊢
      simp at hc ⊢
      omega
    exact Or.inr ⟨q, b, hq, hf, hl, by have := hle b; omega⟩
theorem atd_2 {fa fb : Nat → Nat} {ft : Nat → Bool} {tt : Nat → Int} {n b0 : Nat} {F : Int} {d : Nat → Int} (h : atd fa fb ft tt n b0 F d) (q : Nat) (hq : q < n) (hf : ft q = true) : atd fa fb ft tt n b0 F (rx2 (fa q) (fb q) (tt q) d) := by
  rw [rx2_e]
  exact atd_1 (atd_1 h q _ _ hq hf (Or.inl ⟨rfl, rfl⟩)) q _ _ hq hf (Or.inr ⟨rfl, rfl⟩)
theorem atd_P {fa fb : Nat → Nat} {ft : Nat → Bool} {tt : Nat → Int} {n b0 : Nat} {F : Int} {d : Nat → Int} (h : atd fa fb ft tt n b0 F d) (q : Nat) (hq : q ≤ n) : atd fa fb ft tt n b0 F (rxP fa fb ft tt d q) := by
  induction q with
  | zero => exact h
  | succ q ih =>
    rw [rxP_s]
    split
    · rename_i hf
      exact atd_2 (ih (by omega)) q (by omega) hf
    · exact ih (by omega)
theorem atd_R {fa fb : Nat → Nat} {ft : Nat → Bool} {tt : Nat → Int} {n b0 : Nat} {F : Int} {d : Nat → Int} (h : atd fa fb ft tt n b0 F d) (r : Nat) : atd fa fb ft tt n b0 F (rxR fa fb ft tt n d r) := by
  induction r with
  | zero => exact h
  | succ r ih => rw [rxR_s]; exact atd_P ih n (Nat.le_refl _)
theorem rxP_0 {fa fb : Nat → Nat} {ft : Nat → Bool} {tt : Nat → Int} {d : Nat → Int} (ht : ∀ q, 0 ≤ tt q) (hd : ∀ v, 0 ≤ d v) (q v : Nat) : 0 ≤ rxP fa fb ft tt d q v := by
  induction q generalizing v with
  | zero => exact hd v
  | succ q ih =>
    rw [rxP_s]
    split
    · rw [rx2_e]
      exact rx1_0 (ht q) (fun v => rx1_0 (ht q) ih v) v
    · exact ih v
theorem rxR_0 {fa fb : Nat → Nat} {ft : Nat → Bool} {tt : Nat → Int} {n : Nat} {d : Nat → Int} (ht : ∀ q, 0 ≤ tt q) (hd : ∀ v, 0 ≤ d v) (r v : Nat) : 0 ≤ rxR fa fb ft tt n d r v := by
  induction r generalizing v with
  | zero => exact hd v
  | succ r ih => rw [rxR_s]; exact rxP_0 ht ih n v
theorem rxP_out {fa fb : Nat → Nat} {ft : Nat → Bool} {tt : Nat → Int} {d : Nat → Int} (q : Nat) (hn : ∀ k, k < q → fa k < 8 ∧ fb k < 8) {v : Nat} (hv : 8 ≤ v) : rxP fa fb ft tt d q v = d v := by
  induction q with
  | zero => rfl
  | succ q ih =>
    have h1 := hn q (by omega)
    rw [rxP_s]
    split
    · rw [rx2_e, rx1_out (by omega), rx1_out (by omega), ih (fun k hk => hn k (by omega))]
    · exact ih (fun k hk => hn k (by omega))
theorem rxR_out {fa fb : Nat → Nat} {ft : Nat → Bool} {tt : Nat → Int} {n : Nat} {d : Nat → Int} (r : Nat) (hn : ∀ k, k < n → fa k < 8 ∧ fb k < 8) {v : Nat} (hv : 8 ≤ v) : rxR fa fb ft tt n d r v = d v := by
  induction r with
  | zero => rfl
  | succ r ih => rw [rxR_s, rxP_out n hn hv, ih]
/-- a round shortens along every link -/
theorem rxP_link {fa fb : Nat → Nat} {ft : Nat → Bool} {tt : Nat → Int} {d : Nat → Int} {n q u v : Nat} (hq : q < n) (hf : ft q = true) (hl : lkd fa fb q u v) : rxP fa fb ft tt d n v ≤ d u + tt q := by
  have e : n = (q + 1) + (n - (q + 1)) := by omega
  rw [e]
  refine Int.le_trans (rxP_mono _ _ _ _ _ _ _ _) ?_
  rw [rxP_s, if_pos hf, rx2_e]
  have hle := rxP_le fa fb ft tt d q
  generalize rxP fa fb ft tt d q = g at hle ⊢
  rcases hl with ⟨h1, h2⟩ | ⟨h1, h2⟩
  · subst h1; subst h2
    refine Int.le_trans (rx1_le _ _ _ _ _) ?_
    have := hle (fb q)
    unfold rx1 va_up
    simp
    omega
  · subst h1; subst h2
    have h3 := rx1_le (fa q) (fb q) (tt q) g (fa q)
    have := hle (fa q)
    generalize rx1 (fa q) (fb q) (tt q) g = g1 at h3 ⊢
    unfold rx1 va_up
    simp
    omega
/-- how many of the first k points lie nearer than v -/
def csd (D : Nat → Int) (v : Nat) : Nat → Nat
  | 0 => 0
  | k + 1 => csd D v k + if D k < D v then 1 else 0
theorem csd_le (D : Nat → Int) {u v : Nat} (h : D u < D v) (k : Nat) : csd D u k ≤ csd D v k ∧ (u < k → csd D u k < csd D v k) := by
  induction k with
  | zero => exact ⟨Nat.le_refl _, fun h => absurd h (by omega)⟩
  | succ k ih =>
    unfold csd
    by_cases e : u = k
    · subst e
      rw [if_neg (by omega), if_pos h]
      omega
    · have h1 : (if D k < D u then 1 else 0) ≤ (if D k < D v then 1 else 0) := by
        by_cases h2 : D k < D u
        · rw [if_pos h2, if_pos (by omega)]; exact Nat.le_refl _
        · rw [if_neg h2]; omega
      refine ⟨by omega, fun h3 => ?_⟩
      have := ih.2 (by omega)
      omega
theorem csd_b (D : Nat → Int) (v k : Nat) : csd D v k ≤ k ∧ (v < k → csd D v k < k) := by
  induction k with
  | zero => exact ⟨Nat.le_refl _, fun h => absurd h (by omega)⟩
  | succ k ih =>
    unfold csd
    by_cases e : v = k
    · subst e
      rw [if_neg (by omega)]
      omega
    · have h1 : (if D k < D v then 1 else 0) ≤ 1 := by split <;> omega
      refine ⟨by omega, fun h3 => ?_⟩
      have := ih.2 (by omega)
      omega
def smd (d : Nat → Int) : Nat → Int
  | 0 => 0
  | k + 1 => smd d k + d k
theorem smd_le {d e : Nat → Int} (h : ∀ v, e v ≤ d v) (k : Nat) : smd e k ≤ smd d k ∧ (∀ v, v < k → e v < d v → smd e k < smd d k) := by
  induction k with
  | zero => exact ⟨Int.le_refl _, fun v h => absurd h (by omega)⟩
  | succ k ih =>
    unfold smd
    have h1 := h k
    refine ⟨by omega, fun v hv hl => ?_⟩
    by_cases e : v = k
    · subst e; omega
    · have := ih.2 v (by omega) hl
      omega
theorem smd_0 {d : Nat → Int} (h : ∀ v, 0 ≤ d v) (k : Nat) : 0 ≤ smd d k := by
  induction k with
  | zero => exact Int.le_refl _
  | succ k ih => unfold smd; have := h k; omega
/-- the rounds come to rest -/
theorem rxR_rest {fa fb : Nat → Nat} {ft : Nat → Bool} {tt : Nat → Int} {n : Nat} {d : Nat → Int} (hn : ∀ k, k < n → fa k < 8 ∧ fb k < 8) (ht : ∀ q, 0 ≤ tt q) (hd : ∀ v, 0 ≤ d v) : ∃ R, rxR fa fb ft tt n d (R + 1) = rxR fa fb ft tt n d R := by
  apply Classical.byContradiction
  intro hno
  have hst : ∀ r, smd (rxR fa fb ft tt n d r) 8 + (r : Int) ≤ smd d 8 := by
    intro r
    induction r with
    | zero => show smd d 8 + (0 : Int) ≤ _; omega
    | succ r ih =>
      have hne : rxR fa fb ft tt n d (r + 1) ≠ rxR fa fb ft tt n d r := fun h => hno ⟨r, h⟩
      have hv : ∃ v, rxR fa fb ft tt n d (r + 1) v ≠ rxR fa fb ft tt n d r v := by
        apply Classical.byContradiction
        intro h
        exact hne (funext fun v => Classical.byContradiction fun h2 => h ⟨v, h2⟩)
      obtain ⟨v, hv⟩ := hv
      have hle := fun w => rxR_mono fa fb ft tt n d r 1 w
      have hv8 : v < 8 := by
        apply Classical.byContradiction
        intro h
        exact hv (by rw [rxR_out _ hn (by omega), rxR_out _ hn (by omega)])
      have h1 := (smd_le hle 8).2 v hv8 (by have := hle v; omega)
      have h2 : smd (rxR fa fb ft tt n d (r + 1)) 8 < smd (rxR fa fb ft tt n d r) 8 := h1
      omega
  have h1 := hst ((smd d 8).toNat + 1)
  have h2 := smd_0 (rxR_0 (fa := fa) (fb := fb) (ft := ft) (n := n) ht hd ((smd d 8).toNat + 1)) 8
  omega
theorem rxR_on {fa fb : Nat → Nat} {ft : Nat → Bool} {tt : Nat → Int} {n : Nat} {d : Nat → Int} {R : Nat} (h : rxR fa fb ft tt n d (R + 1) = rxR fa fb ft tt n d R) (k : Nat) : rxR fa fb ft tt n d (R + k) = rxR fa fb ft tt n d R := by
  induction k with
  | zero => rfl
  | succ k ih =>
    show rxR fa fb ft tt n d (R + k + 1) = _
    rw [rxR_s, ih, ← rxR_s, h]
/-- at rest within seven rounds -/
theorem rxR_7 {fa fb : Nat → Nat} {ft : Nat → Bool} {tt : Nat → Int} {n b0 : Nat} {F : Int} {d : Nat → Int} (hn : ∀ k, k < n → fa k < 8 ∧ fb k < 8) (ht : ∀ q, 0 ≤ tt q) (ht1 : ∀ q, q < n → 1 ≤ tt q) (hb : d b0 = 0) (h8 : ∀ v, v < 8 → v ≠ b0 → d v = F) (hF : 0 < F) (hd : ∀ v, 0 ≤ d v) :
    rxR fa fb ft tt n d 8 = rxR fa fb ft tt n d 7 := by
  obtain ⟨R0, hR0⟩ := rxR_rest (ft := ft) hn ht hd
  have hR : ∃ R, 7 ≤ R ∧ rxR fa fb ft tt n d (R + 1) = rxR fa fb ft tt n d R := by
    refine ⟨R0 + 7, by omega, ?_⟩
    rw [rxR_on hR0 7]
    exact rxR_on hR0 8
  obtain ⟨R, hR7, hR⟩ := hR
  have hat0 : atd fa fb ft tt n b0 F d := by
    intro v hv hlt
    by_cases e : v = b0
    · exact Or.inl e
    · exact absurd (h8 v hv e) (by omega)
  have hat := atd_R hat0 R
  have hge : ∀ m, m ≤ R → ∀ v, rxR fa fb ft tt n d R v ≤ rxR fa fb ft tt n d m v := by
    intro m hm v
    have := rxR_mono fa fb ft tt n d m (R - m) v
    rwa [show m + (R - m) = R by omega] at this
  have hup : ∀ v, v < 8 → rxR fa fb ft tt n d 0 v ≤ F := by
    intro v hv
    by_cases e : v = b0
    · subst e; show d v ≤ F; omega
    · show d v ≤ F; rw [h8 v hv e]; exact Int.le_refl _
  have hnn := rxR_0 (fa := fa) (fb := fb) (ft := ft) (n := n) ht hd
  have key : ∀ m v, v < 8 → csd (rxR fa fb ft tt n d R) v 8 ≤ m → rxR fa fb ft tt n d m v ≤ rxR fa fb ft tt n d R v := by
    intro m
    induction m with
    | zero =>
      intro v hv hc
      by_cases hlt : rxR fa fb ft tt n d R v < F
      · rcases hat v hv hlt with h1 | ⟨q, u, h1, h2, h3, h4⟩
        · subst h1
          show d v ≤ _
          have := hnn R v
          omega
        · have hu : u < 8 := by
            have := hn q h1
            rcases h3 with ⟨_, h⟩ | ⟨_, h⟩ <;> omega
          have := (csd_le (rxR fa fb ft tt n d R) (u := u) (v := v) (by have := ht1 q h1; omega) 8).2 hu
          omega
      · have := hup v hv
        omega
    | succ m ih =>
      intro v hv hc
      have hmm : rxR fa fb ft tt n d (m + 1) v ≤ rxR fa fb ft tt n d 0 v := by
        have := rxR_mono fa fb ft tt n d 0 (m + 1) v
        rwa [Nat.zero_add] at this
      by_cases hlt : rxR fa fb ft tt n d R v < F
      · rcases hat v hv hlt with h1 | ⟨q, u, h1, h2, h3, h4⟩
        · subst h1
          have h5 : rxR fa fb ft tt n d 0 v = 0 := hb
          have := hnn R v
          omega
        · have hu : u < 8 := by
            have := hn q h1
            rcases h3 with ⟨_, h⟩ | ⟨_, h⟩ <;> omega
          have h5 := (csd_le (rxR fa fb ft tt n d R) (u := u) (v := v) (by have := ht1 q h1; omega) 8).2 hu
          have h6 := ih u hu (by omega)
          have h7 : rxR fa fb ft tt n d (m + 1) v ≤ rxR fa fb ft tt n d m u + tt q := by
            rw [rxR_s]
            exact rxP_link h1 h2 h3
          omega
      · have := hup v hv
        omega
  have h7 : rxR fa fb ft tt n d 7 = rxR fa fb ft tt n d R := by
    funext v
    by_cases hv : v < 8
    · have h1 := key 7 v hv (by have := (csd_b (rxR fa fb ft tt n d R) v 8).2 hv; omega)
      have h2 := hge 7 hR7 v
      omega
    · rw [rxR_out _ hn (by omega), rxR_out _ hn (by omega)]
  show rxR fa fb ft tt n d (7 + 1) = _
  rw [rxR_s, h7, ← rxR_s, hR]
/-- what a resting row of times says -/
theorem rxR_end {fa fb : Nat → Nat} {ft : Nat → Bool} {tt : Nat → Int} {n b0 : Nat} {F : Int} {d : Nat → Int} (hn : ∀ k, k < n → fa k < 8 ∧ fb k < 8) (ht : ∀ q, 0 ≤ tt q) (ht1 : ∀ q, q < n → 1 ≤ tt q) (hb : d b0 = 0) (h8 : ∀ v, v < 8 → v ≠ b0 → d v = F) (hF : 0 < F) (hd : ∀ v, 0 ≤ d v) :
    ∀ v, v < 8 → v ≠ b0 → rxR fa fb ft tt n d 7 v < F → ∃ q u, q < n ∧ ft q = true ∧ lkd fa fb q u v ∧ rxR fa fb ft tt n d 7 v = tt q + rxR fa fb ft tt n d 7 u := by
  intro v hv hne hlt
  have hat0 : atd fa fb ft tt n b0 F d := by
    intro v hv hlt
    by_cases e : v = b0
    · exact Or.inl e
    · exact absurd (h8 v hv e) (by omega)
  rcases atd_R hat0 7 v hv hlt with h1 | ⟨q, u, h1, h2, h3, h4⟩
  · exact absurd h1 hne
  · refine ⟨q, u, h1, h2, h3, ?_⟩
    have h5 : rxR fa fb ft tt n d 8 v ≤ rxR fa fb ft tt n d 7 u + tt q := by
      show rxR fa fb ft tt n d (7 + 1) v ≤ _
      rw [rxR_s]
      exact rxP_link h1 h2 h3
    rw [rxR_7 hn ht ht1 hb h8 hF hd] at h5
    omega
theorem rxR_b0 {fa fb : Nat → Nat} {ft : Nat → Bool} {tt : Nat → Int} {n b0 : Nat} {d : Nat → Int} (ht : ∀ q, 0 ≤ tt q) (hb : d b0 = 0) (hd : ∀ v, 0 ≤ d v) (r : Nat) : rxR fa fb ft tt n d r b0 = 0 := by
  have h1 := rxR_0 (fa := fa) (fb := fb) (ft := ft) (n := n) ht hd r b0
  have h2 := rxR_mono fa fb ft tt n d 0 r b0
  rw [Nat.zero_add] at h2
  have h3 : rxR fa fb ft tt n d 0 b0 = 0 := hb
  omega

/-! the reference, as functions of the state: least times, the next piece, conflicts -/
def mm1 (S : St) (b : Int) : Nat → St
  | 0 => S
  | k + 1 => s_up (mm1 S b k) 43 k (if (k : Int) = b then 0 else 1000000)
theorem mm1_s (S : St) (b : Int) (k : Nat) : mm1 S b (k + 1) = s_up (mm1 S b k) 43 k (if (k : Int) = b then 0 else 1000000) := rfl
theorem mm1_I {S : St} (h : Inv S) {b : Int} (k : Nat) : Inv (mm1 S b k) := by
  induction k with
  | zero => exact h
  | succ k ih =>
    rw [mm1_s]
    split
    · exact Inv.up (q := 43) ih (by decide) (show (0 : Int) ≤ 1000000 by decide)
    · exact Inv.up (q := 43) ih (by decide) (show (1000000 : Int) ≤ 1000000 by decide)
theorem mm1_ne (S : St) (b : Int) (k : Nat) {c : Nat} (h : c ≠ 43) : mm1 S b k c = S c := by
  induction k with
  | zero => rfl
  | succ k ih => rw [mm1_s, s_up_cell h, ih]
def mU1 (S : St) (q t : Int) : St := s_up S 43 (S 26 q.toNat).toNat (if S 43 (S 27 q.toNat).toNat + t < S 43 (S 26 q.toNat).toNat then S 43 (S 27 q.toNat).toNat + t else S 43 (S 26 q.toNat).toNat)
def mU2 (S : St) (q t : Int) : St := s_up (mU1 S q t) 43 (S 27 q.toNat).toNat (if mU1 S q t 43 (S 26 q.toNat).toNat + t < mU1 S q t 43 (S 27 q.toNat).toNat then mU1 S q t 43 (S 26 q.toNat).toNat + t else mU1 S q t 43 (S 27 q.toNat).toNat)
theorem mU1_lt {S : St} {q t : Int} (h : S 43 (S 27 q.toNat).toNat + t < S 43 (S 26 q.toNat).toNat) : mU1 S q t = s_up S 43 (S 26 q.toNat).toNat (S 43 (S 27 q.toNat).toNat + t) := by unfold mU1; rw [if_pos h]
theorem mU1_ge {S : St} {q t : Int} (h : ¬ S 43 (S 27 q.toNat).toNat + t < S 43 (S 26 q.toNat).toNat) : mU1 S q t = s_up S 43 (S 26 q.toNat).toNat (S 43 (S 26 q.toNat).toNat) := by unfold mU1; rw [if_neg h]
theorem mU2_lt {S T : St} {q t : Int} (e : mU1 S q t = T) (h : T 43 (S 26 q.toNat).toNat + t < T 43 (S 27 q.toNat).toNat) : mU2 S q t = s_up T 43 (S 27 q.toNat).toNat (T 43 (S 26 q.toNat).toNat + t) := by unfold mU2; rw [e, if_pos h]
theorem mU2_ge {S T : St} {q t : Int} (e : mU1 S q t = T) (h : ¬ T 43 (S 26 q.toNat).toNat + t < T 43 (S 27 q.toNat).toNat) : mU2 S q t = s_up T 43 (S 27 q.toNat).toNat (T 43 (S 27 q.toNat).toNat) := by unfold mU2; rw [e, if_neg h]
theorem mU1_I {S : St} (h : Inv S) {q t : Int} (ht : 0 ≤ t) : Inv (mU1 S q t) := by
  have h1 := iv_43 h (S 26 q.toNat).toNat
  have h2 := iv_43 h (S 27 q.toNat).toNat
  exact Inv.up (q := 43) h (by split <;> omega) (show _ ≤ 1000000 by split <;> omega)
theorem mU2_I {S : St} (h : Inv S) {q t : Int} (ht : 0 ≤ t) : Inv (mU2 S q t) := by
  have h1 := iv_43 (mU1_I h (q := q) ht) (S 26 q.toNat).toNat
  have h2 := iv_43 (mU1_I h (q := q) ht) (S 27 q.toNat).toNat
  exact Inv.up (q := 43) (mU1_I h ht) (by split <;> omega) (show _ ≤ 1000000 by split <;> omega)
theorem mU2_ne (S : St) (q t : Int) {c : Nat} (h : c ≠ 43) : mU2 S q t c = S c := by
  unfold mU2 mU1
  rw [s_up_cell h, s_up_cell h]
def mlp (T : St) (sh : Int) : Nat → St
  | 0 => T
  | q + 1 => if mlp T sh q 29 (q : Int).toNat < mlp T sh q 34 sh.toNat then mlp T sh q else mU2 (mlp T sh q) (q : Int) (mTk (mlp T sh q) sh (q : Int))
theorem mlp_s (T : St) (sh : Int) (q : Nat) : mlp T sh (q + 1) = if mlp T sh q 29 (q : Int).toNat < mlp T sh q 34 sh.toNat then mlp T sh q else mU2 (mlp T sh q) (q : Int) (mTk (mlp T sh q) sh (q : Int)) := rfl
theorem mlp_ne (T : St) (sh : Int) (k : Nat) {c : Nat} (h : c ≠ 43) : mlp T sh k c = T c := by
  induction k with
  | zero => rfl
  | succ k ih =>
    rw [mlp_s]
    split
    · exact ih
    · rw [mU2_ne _ _ _ h, ih]
theorem mlp_I {T : St} (h : Inv T) {sh : Int} (hs : 1 ≤ T 35 sh.toNat) (k : Nat) : Inv (mlp T sh k) := by
  induction k with
  | zero => exact h
  | succ k ih =>
    rw [mlp_s]
    split
    · exact ih
    · exact mU2_I ih (mTk_b ih (by rw [mlp_ne _ _ _ (by decide)]; exact hs) (k : Int)).1
def mlr (T : St) (sh : Int) : Nat → St
  | 0 => T
  | r + 1 => mlp (mlr T sh r) sh (mlr T sh r 25 1).toNat
theorem mlr_ne (T : St) (sh : Int) (k : Nat) {c : Nat} (h : c ≠ 43) : mlr T sh k c = T c := by
  induction k with
  | zero => rfl
  | succ k ih =>
    show mlp _ _ _ c = _
    rw [mlp_ne _ _ _ h, ih]
theorem mlr_I {T : St} (h : Inv T) {sh : Int} (hs : 1 ≤ T 35 sh.toNat) (k : Nat) : Inv (mlr T sh k) := by
  induction k with
  | zero => exact h
  | succ k ih => exact mlp_I ih (by rw [mlr_ne _ _ _ (by decide)]; exact hs) _
def mTt (S : St) (sh b : Int) : St := mlr (mm1 S b 8) sh 8
theorem mTt_I {S : St} (sh b : Int) (h : Inv S) (hs : 1 ≤ S 35 sh.toNat) : Inv (mTt S sh b) := mlr_I (mm1_I h 8) (by rw [mm1_ne _ _ _ (by decide)]; exact hs) 8
theorem mTt_ne (S : St) (sh b : Int) {c : Nat} (h : c ≠ 43) : mTt S sh b c = S c := by
  unfold mTt
  rw [mlr_ne _ _ _ h, mm1_ne _ _ _ h]
def mOe (S : St) (q t : Int) : Int := if S 26 q.toNat = t then S 27 q.toNat else if S 27 q.toNat = t then S 26 q.toNat else -1
def mNf (S : St) (sh t : Int) : Nat → Nat → Int
  | _, 0 => -1
  | q, n + 1 => if ¬ mOe S (q : Int) t < 0 ∧ ¬ S 29 (q : Int).toNat < S 34 sh.toNat ∧ S 43 t.toNat = mTk S sh (q : Int) + S 43 (mOe S (q : Int) t).toNat then (q : Int) else mNf S sh t (q + 1) n
theorem mNf_u (S : St) (sh t : Int) (q n : Nat) : mNf S sh t q (n + 1) = if ¬ mOe S (q : Int) t < 0 ∧ ¬ S 29 (q : Int).toNat < S 34 sh.toNat ∧ S 43 t.toNat = mTk S sh (q : Int) + S 43 (mOe S (q : Int) t).toNat then (q : Int) else mNf S sh t (q + 1) n := rfl
theorem mNf_s (S : St) (sh t : Int) (k n : Nat) (x : Int) (hx : x = (k : Int) - 1) (h0 : 0 < k) (h : k ≤ n) : mNf S sh t (k - 1) (n - (k - 1)) = if ¬ mOe S x t < 0 ∧ ¬ S 29 x.toNat < S 34 sh.toNat ∧ S 43 t.toNat = mTk S sh x + S 43 (mOe S x t).toNat then x else mNf S sh t k (n - k) := by
  have e : n - (k - 1) = (n - k) + 1 := by omega
  have e2 : x = ((k - 1 : Nat) : Int) := by omega
  have e3 : k - 1 + 1 = k := by omega
  rw [e, mNf_u, e2, e3]
theorem mNf_b (S : St) (sh t : Int) (q n : Nat) : -1 ≤ mNf S sh t q n ∧ mNf S sh t q n < (q : Int) + n := by
  induction n generalizing q with
  | zero => unfold mNf; omega
  | succ n ih =>
    have h1 := ih (q + 1)
    rw [mNf_u]
    split <;> omega
def mNx (S : St) (sh t : Int) : Int := if 0 < S 43 t.toNat then mNf S sh t 0 (S 25 1).toNat else -1
theorem mNx_b (S : St) (sh t : Int) : -1 ≤ mNx S sh t ∧ mNx S sh t < max (S 25 1) 0 := by
  have h1 := mNf_b S sh t 0 (S 25 1).toNat
  unfold mNx
  split <;> omega
/-- a search that may end early: its answer, and what is left -/
def mOb (x : Option Int × Int) (f : Int → Option Int × Int) : Option Int × Int := match x with
  | (some v, L) => (some v, L)
  | (none, L) => f L
def mAn (S : St) (w k r j : Int) : Int := if w = 0 then k else if w = 1 then r else if w = 2 then S 41 (8 * k + j).toNat else mWt S k j r (S 40 r.toNat).toNat
def mCj (S : St) (w k r : Int) : Nat → Nat → Int → Option Int × Int
  | _, 0, L => (none, L)
  | j, n + 1, L => if S 39 k.toNat = 0 ∨ S 39 r.toNat = 0 then (none, L) else if 0 < mWt S k (j : Int) r (S 40 r.toNat).toNat ∧ L = 0 then (some (mAn S w k r (j : Int)), L) else mCj S w k r (j + 1) n (if 0 < mWt S k (j : Int) r (S 40 r.toNat).toNat then L - 1 else L - 0)
theorem mCj_u (S : St) (w k r : Int) (j n : Nat) (L : Int) : mCj S w k r j (n + 1) L = if S 39 k.toNat = 0 ∨ S 39 r.toNat = 0 then (none, L) else if 0 < mWt S k (j : Int) r (S 40 r.toNat).toNat ∧ L = 0 then (some (mAn S w k r (j : Int)), L) else mCj S w k r (j + 1) n (if 0 < mWt S k (j : Int) r (S 40 r.toNat).toNat then L - 1 else L - 0) := rfl
theorem mCj_s (S : St) (w k r : Int) (j n : Nat) (L : Int) (h : j < n) (h1 : ¬ S 39 k.toNat = 0) (h2 : ¬ S 39 r.toNat = 0) : mCj S w k r j (n - j) L = if 0 < mWt S k (j : Int) r (S 40 r.toNat).toNat ∧ L = 0 then (some (mAn S w k r (j : Int)), L) else mCj S w k r (j + 1) (n - (j + 1)) (if 0 < mWt S k (j : Int) r (S 40 r.toNat).toNat then L - 1 else L - 0) := by
  have e : n - j = (n - (j + 1)) + 1 := by omega
  rw [e, mCj_u, if_neg (by omega)]
theorem mCj_e (S : St) (w k r : Int) (j n : Nat) (L : Int) (h : n ≤ j ∨ S 39 k.toNat = 0 ∨ S 39 r.toNat = 0) : mCj S w k r j (n - j) L = (none, L) := by
  rcases Nat.lt_or_ge j n with h1 | h1
  · have e : n - j = (n - (j + 1)) + 1 := by omega
    rw [e, mCj_u, if_pos (by omega)]
  · rw [show n - j = 0 by omega]
    rfl
def mCr (S : St) (w k : Int) : Nat → Nat → Int → Option Int × Int
  | _, 0, L => (none, L)
  | r, n + 1, L => mOb (mCj S w k (r : Int) 0 (S 40 k.toNat).toNat L) (fun L => mCr S w k (r + 1) n L)
theorem mCr_s (S : St) (w k : Int) (a g n : Nat) (L : Int) (h : g < n) : mCr S w k (a + g + 1) (n - g) L = mOb (mCj S w k (((a + g : Nat) : Int) + 1) 0 (S 40 k.toNat).toNat L) (fun L => mCr S w k (a + g + 1 + 1) (n - (g + 1)) L) := by
  have e : n - g = (n - (g + 1)) + 1 := by omega
  rw [e]
  rfl
def mCk (S : St) (w : Int) : Nat → Nat → Int → Option Int × Int
  | _, 0, L => (none, L)
  | k, n + 1, L => mOb (mCr S w (k : Int) (k + 1) n L) (fun L => mCk S w (k + 1) n L)
theorem mCk_s (S : St) (w : Int) (k n : Nat) (L : Int) (h : k < n) : mCk S w (k + 1) (n - k) L = mOb (mCr S w ((k : Int) + 1) (k + 1 + 1) (n - (k + 1)) L) (fun L => mCk S w (k + 1 + 1) (n - (k + 1)) L) := by
  have e : n - k = (n - (k + 1)) + 1 := by omega
  rw [e]
  rfl
def mFn (i w : Int) (x : Option Int × Int) : Int := match x with
  | (some v, _) => v
  | (none, L) => if w < 0 then i - L else -1
def mCf (S : St) (i w : Int) : Int := mFn i w (mCk S w 1 (S 25 16).toNat i)
/-- what a search may answer -/
def mOk (i : Int) (x : Option Int × Int) : Prop := (∀ v, x.1 = some v → -1 ≤ v ∧ v ≤ 30) ∧ 0 ≤ x.2 ∧ x.2 ≤ i
theorem mOb_k {i : Int} {x : Option Int × Int} {f : Int → Option Int × Int} (h : mOk i x) (hf : ∀ L, 0 ≤ L → L ≤ i → mOk i (f L)) : mOk i (mOb x f) := by
  rcases x with ⟨_ | v, L⟩
  · exact hf L h.2.1 h.2.2
  · exact h
theorem mCj_k {S : St} (hI : Inv S) {i w k r : Int} (hk : 0 ≤ k ∧ k ≤ 30) (hr : 0 ≤ r ∧ r ≤ 30) (j n : Nat) (L : Int) (h0 : 0 ≤ L) (h1 : L ≤ i) : mOk i (mCj S w k r j n L) := by
  induction n generalizing j L with
  | zero => exact ⟨fun v h => (by cases h), h0, h1⟩
  | succ n ih =>
    have wb := mWt_b S k (j : Int) r (S 40 r.toNat).toNat
    rw [mCj_u]
    split
    · exact ⟨fun v h => (by cases h), h0, h1⟩
    · split
      · refine ⟨fun v h => ?_, h0, h1⟩
        have hv : mAn S w k r (j : Int) = v := Option.some.inj h
        have h41 := iv_41 hI (8 * k + (j : Int)).toNat
        rw [← hv]
        unfold mAn
        repeat (first | omega | split)
      · refine ih (j + 1) _ ?_ ?_
        · split <;> omega
        · split <;> omega
theorem mCr_k {S : St} (hI : Inv S) {i w k : Int} (hk : 0 ≤ k ∧ k ≤ 30) (r n : Nat) (L : Int) (hr : r + n ≤ 31) (h0 : 0 ≤ L) (h1 : L ≤ i) : mOk i (mCr S w k r n L) := by
  induction n generalizing r L with
  | zero => exact ⟨fun v h => (by cases h), h0, h1⟩
  | succ n ih => exact mOb_k (mCj_k hI hk ⟨by omega, by omega⟩ 0 _ L h0 h1) (fun L a b => ih (r + 1) L (by omega) a b)
theorem mCk_k {S : St} (hI : Inv S) {i w : Int} (k n : Nat) (L : Int) (hk : k + n ≤ 31) (h0 : 0 ≤ L) (h1 : L ≤ i) : mOk i (mCk S w k n L) := by
  induction n generalizing k L with
  | zero => exact ⟨fun v h => (by cases h), h0, h1⟩
  | succ n ih => exact mOb_k (mCr_k hI ⟨by omega, by omega⟩ (k + 1) n L (by omega) h0 h1) (fun L a b => ih (k + 1) L (by omega) a b)
theorem mCf_b {S : St} (hI : Inv S) {i : Int} (w : Int) (hi : 0 ≤ i ∧ i ≤ 2147483647) : -1 ≤ mCf S i w ∧ mCf S i w ≤ 2147483647 := by
  have h16 := iv_25k hI
  have h := mCk_k hI (w := w) 1 (S 25 16).toNat i (by omega) hi.1 (Int.le_refl _)
  unfold mCf mFn
  rcases hx : mCk S w 1 (S 25 16).toNat i with ⟨_ | v, L⟩
  · rw [hx] at h
    have h1 := h.2
    simp only [] at h1 ⊢
    split <;> omega
  · rw [hx] at h
    have h1 := h.1 v rfl
    simp only []
    omega
set_option maxHeartbeats 4000000 in
set_option maxRecDepth 100000 in
theorem c_md_timesTo (l : Launch) (G : Gt) (S : St) (sh : Int) (b : Int) (hI : Inv S) (hsh : 0 ≤ sh ∧ sh < 12) (hb : 0 ≤ b ∧ b ≤ 7) (hs : 1 ≤ S 35 sh.toNat) : Met l y_md_timesTo [.code y_md_timesTo b_md_timesTo 8 none] { frames := 1, cells := 0, slots := 0, locals := 22 } (va_Pc [.ref (G.2.1 25), .int (iI (sh)), .int (iI (b))] (fun U => wu G S U)) (qV G (mTt S sh b)) 0 0 (gA G) := by
  refine mt_of (by decide +kernel) (Nat.le_of_ble_eq_true rfl) ?_
  intro p e s m below meth c ls hadm hC hr hlk hex hw hl
  have hC : CallFix p m c b_md_timesTo 8 s _ tws "ChannelRulesModel" := hC
  have hl : lv_has ls 8 [(0, .ref (G.2.1 25)), (1, .int (iI (sh))), (2, .int (iI (b)))] := hl
  have i1 := iv_25p hI
  refine lv_iconst (v := iI 0) hC.1 hC.2.1 d_md_timesTo_0 rfl ?_
  refine lv_istore_n (lv' := [(3, .int (iI (0))), (0, .ref (G.2.1 25)), (1, .int (iI (sh))), (2, .int (iI (b)))]) hC.1 hC.2.1 d_md_timesTo_1 rfl hl (by decide) rfl (fun ls hl => ?_)
  have loop_2 : ∀ (nn : Nat) (k : Nat) (x3 : Int), 8 - k < nn → x3 = (k : Int) → k ≤ 8 → ∀ (H : Heap) (locs : List Loc) (ls : Array Slot), wh G (mm1 S b k) s H locs → lv_has ls 8 [(3, .int (iI (x3))), (0, .ref (G.2.1 25)), (1, .int (iI (sh))), (2, .int (iI (b)))] → W p l e { frames := 1, cells := 0, slots := 0, locals := 22 } s m ([.ref (G.2.1 25), .int (iI (sh)), .int (iI (b))] : List Value).toArray below meth c H locs 0 0 (MQ below (qV G (mTt S sh b)) ([.ref (G.2.1 25), .int (iI (sh)), .int (iI (b))] : List Value).toArray s 0 0 (gA G)) (F0 m 2 ls []) := by
    intro nn
    induction nn with
    | zero => intros; omega
    | succ nn ih_2 =>
      intro k x3 hms_2 hx3 hv0 H locs ls hw hl
      refine lv_iload_n hC.1 hC.2.1 d_md_timesTo_2 rfl (lv_at hl 0 rfl) ?_
      refine lv_bipush (v := iI 8) hC.1 hC.2.1 d_md_timesTo_3 (by decide +kernel) ?_
      refine ir_ge (tgt := 31) hC.1 hC.2.1 d_md_timesTo_5 (by decide) ⟨by omega, by omega⟩ (by decide) (fun c_1 => ?_) (fun c_1 => ?_)
      · skip
        refine lv_iconst (v := iI 0) hC.1 hC.2.1 d_md_timesTo_31 rfl ?_
        refine lv_istore_n (lv' := [(3, .int (iI (0))), (0, .ref (G.2.1 25)), (1, .int (iI (sh))), (2, .int (iI (b)))]) hC.1 hC.2.1 d_md_timesTo_32 rfl hl (by decide) rfl (fun ls hl => ?_)
        have loop_33 : ∀ (nn : Nat) (r : Nat) (x3 : Int), 8 - r < nn → x3 = (r : Int) → r ≤ 8 → ∀ (H : Heap) (locs : List Loc) (ls : Array Slot), wh G (mlr (mm1 S b 8) sh r) s H locs → lv_has ls 8 [(3, .int (iI (x3))), (0, .ref (G.2.1 25)), (1, .int (iI (sh))), (2, .int (iI (b)))] → W p l e { frames := 1, cells := 0, slots := 0, locals := 22 } s m ([.ref (G.2.1 25), .int (iI (sh)), .int (iI (b))] : List Value).toArray below meth c H locs 0 0 (MQ below (qV G (mTt S sh b)) ([.ref (G.2.1 25), .int (iI (sh)), .int (iI (b))] : List Value).toArray s 0 0 (gA G)) (F0 m 33 ls []) := by
          intro nn
          induction nn with
          | zero => intros; omega
          | succ nn ih_33 =>
            intro r x3 hms_33 hx3 hv0 H locs ls hw hl
            have e1 : mlr (mm1 S b 8) sh r 25 1 = S 25 1 := by rw [mlr_ne _ _ _ (by decide), mm1_ne _ _ _ (by decide)]
            have e5 : mlr (mm1 S b 8) sh r 35 sh.toNat = S 35 sh.toNat := by rw [mlr_ne _ _ _ (by decide), mm1_ne _ _ _ (by decide)]
            refine lv_iload_n hC.1 hC.2.1 d_md_timesTo_33 rfl (lv_at hl 0 rfl) ?_
            refine lv_bipush (v := iI 8) hC.1 hC.2.1 d_md_timesTo_34 (by decide +kernel) ?_
            refine ir_ge (tgt := 200) hC.1 hC.2.1 d_md_timesTo_36 (by decide) ⟨by omega, by omega⟩ (by decide) (fun c_2 => ?_) (fun c_2 => ?_)
            · skip
              exact rt_V hC hr hlk hw (by rw [show r = 8 by omega]; rfl) d_md_timesTo_200
            · skip
              refine lv_iconst (v := iI 0) hC.1 hC.2.1 d_md_timesTo_39 rfl ?_
              refine lv_istore (lv' := [(4, .int (iI (0))), (3, .int (iI (x3))), (0, .ref (G.2.1 25)), (1, .int (iI (sh))), (2, .int (iI (b)))]) hC.1 hC.2.1 d_md_timesTo_40 hl (by decide) rfl (fun ls hl => ?_)
              have loop_42 : ∀ (nn : Nat) (k : Nat) (x4 : Int), (S 25 1).toNat - k < nn → x4 = (k : Int) → (k : Int) ≤ S 25 1 → ∀ (H : Heap) (locs : List Loc) (ls : Array Slot), wh G (mlp (mlr (mm1 S b 8) sh r) sh k) s H locs → lv_has ls 8 [(4, .int (iI (x4))), (3, .int (iI (x3))), (0, .ref (G.2.1 25)), (1, .int (iI (sh))), (2, .int (iI (b)))] → W p l e { frames := 1, cells := 0, slots := 0, locals := 22 } s m ([.ref (G.2.1 25), .int (iI (sh)), .int (iI (b))] : List Value).toArray below meth c H locs 0 0 (MQ below (qV G (mTt S sh b)) ([.ref (G.2.1 25), .int (iI (sh)), .int (iI (b))] : List Value).toArray s 0 0 (gA G)) (F0 m 42 ls []) := by
                intro nn
                induction nn with
                | zero => intros; omega
                | succ nn ih_42 =>
                  intro k x4 hms_42 hx4 hv0 H locs ls hw hl
                  have e2 : mlp (mlr (mm1 S b 8) sh r) sh k 25 1 = S 25 1 := by rw [mlp_ne _ _ _ (by decide)]; exact e1
                  have e6 : mlp (mlr (mm1 S b 8) sh r) sh k 35 sh.toNat = S 35 sh.toNat := by rw [mlp_ne _ _ _ (by decide)]; exact e5
                  refine lv_iload hC.1 hC.2.1 d_md_timesTo_42 (lv_at hl 0 rfl) ?_
                  refine lv_aload_n hC.1 hC.2.1 d_md_timesTo_44 rfl (lv_at hl 2 rfl) ?_
                  refine gf_md_69 hC hw d_md_timesTo_45 ?_
                  have b_3 := iv_25p (mlp_I (sh := sh) (mlr_I (sh := sh) (mm1_I (b := b) hI 8) (by rw [mm1_ne _ _ _ (by decide)]; exact hs) r) (by omega) k)
                  refine ir_ge (tgt := 194) hC.1 hC.2.1 d_md_timesTo_48 (by decide) ⟨by omega, by omega⟩ ⟨by omega, by omega⟩ (fun c_4 => ?_) (fun c_4 => ?_)
                  · skip
                    refine lv_iinc (v := iI (x3 + 1)) (lv' := [(3, .int (iI (x3 + 1))), (4, .int (iI (x4))), (0, .ref (G.2.1 25)), (1, .int (iI (sh))), (2, .int (iI (b)))]) hC.1 hC.2.1 d_md_timesTo_194 hl (k := 1) rfl (iI_add _ _) (by decide) rfl (fun ls hl => ?_)
                    refine lv_goto (tgt := 33) hC.1 hC.2.1 d_md_timesTo_197 (by decide) ?_
                    exact ih_33 (r + 1) _ (by omega) (by first | rfl | omega) (by omega) _ _ _ (by rw [show k = (mlr (mm1 S b 8) sh r 25 1).toNat by omega] at hw; exact hw) (lv_sub hl [0, 2, 3, 4] rfl)
                  · skip
                    refine lv_aload_n hC.1 hC.2.1 d_md_timesTo_51 rfl (lv_at hl 2 rfl) ?_
                    refine lv_iload_n hC.1 hC.2.1 d_md_timesTo_52 rfl (lv_at hl 3 rfl) ?_
                    refine lv_iload hC.1 hC.2.1 d_md_timesTo_53 (lv_at hl 0 rfl) ?_
                    refine go_R (ca_V (As := [.int (iI (sh)), .int (iI (x4))]) (rest := []) hC hw (c_md_takes l G (mlp (mlr (mm1 S b 8) sh r) sh k) sh x4 (mlp_I (sh := sh) (mlr_I (sh := sh) (mm1_I (b := b) hI 8) (by rw [mm1_ne _ _ _ (by decide)]; exact hs) r) (by omega) k) (by omega) (by omega) (by omega)) (cv_md_102 hC rfl rfl (Nat.le_of_ble_eq_true rfl) (Nat.le_of_ble_eq_true rfl)) (by decide) rfl rfl rfl hl.1 rfl (Nat.le_of_ble_eq_true rfl) d_md_timesTo_55 ⟨Nat.le_of_ble_eq_true rfl, Nat.le_of_ble_eq_true rfl⟩) ?_
                    have r_5 := mTk_b (mlp_I (sh := sh) (mlr_I (sh := sh) (mm1_I (b := b) hI 8) (by rw [mm1_ne _ _ _ (by decide)]; exact hs) r) (by omega) k) (show 1 ≤ (mlp (mlr (mm1 S b 8) sh r) sh k) 35 sh.toNat by omega) x4
                    refine lv_istore (lv' := [(5, .int (iI (mTk (mlp (mlr (mm1 S b 8) sh r) sh k) sh x4))), (4, .int (iI (x4))), (3, .int (iI (x3))), (0, .ref (G.2.1 25)), (1, .int (iI (sh))), (2, .int (iI (b)))]) hC.1 hC.2.1 d_md_timesTo_58 hl (by decide) rfl (fun ls hl => ?_)
                    refine lv_aload_n hC.1 hC.2.1 d_md_timesTo_60 rfl (lv_at hl 3 rfl) ?_
                    refine gf_md_7 hC hw d_md_timesTo_61 ?_
                    refine lv_iload hC.1 hC.2.1 d_md_timesTo_64 (lv_at hl 1 rfl) ?_
                    refine ld_26 hC hw (by omega) (by omega) d_md_timesTo_66 ?_
                    have b_6 := iv_26 (mlp_I (sh := sh) (mlr_I (sh := sh) (mm1_I (b := b) hI 8) (by rw [mm1_ne _ _ _ (by decide)]; exact hs) r) (by omega) k) x4.toNat
                    refine lv_istore (lv' := [(6, .int (iI ((mlp (mlr (mm1 S b 8) sh r) sh k) 26 x4.toNat))), (5, .int (iI (mTk (mlp (mlr (mm1 S b 8) sh r) sh k) sh x4))), (4, .int (iI (x4))), (3, .int (iI (x3))), (0, .ref (G.2.1 25)), (1, .int (iI (sh))), (2, .int (iI (b)))]) hC.1 hC.2.1 d_md_timesTo_67 hl (by decide) rfl (fun ls hl => ?_)
                    refine lv_aload_n hC.1 hC.2.1 d_md_timesTo_69 rfl (lv_at hl 4 rfl) ?_
                    refine gf_md_13 hC hw d_md_timesTo_70 ?_
                    refine lv_iload hC.1 hC.2.1 d_md_timesTo_73 (lv_at hl 2 rfl) ?_
                    refine ld_27 hC hw (by omega) (by omega) d_md_timesTo_75 ?_
                    have b_7 := iv_27 (mlp_I (sh := sh) (mlr_I (sh := sh) (mm1_I (b := b) hI 8) (by rw [mm1_ne _ _ _ (by decide)]; exact hs) r) (by omega) k) x4.toNat
                    refine lv_istore (lv' := [(7, .int (iI ((mlp (mlr (mm1 S b 8) sh r) sh k) 27 x4.toNat))), (6, .int (iI ((mlp (mlr (mm1 S b 8) sh r) sh k) 26 x4.toNat))), (5, .int (iI (mTk (mlp (mlr (mm1 S b 8) sh r) sh k) sh x4))), (4, .int (iI (x4))), (3, .int (iI (x3))), (0, .ref (G.2.1 25)), (1, .int (iI (sh))), (2, .int (iI (b)))]) hC.1 hC.2.1 d_md_timesTo_76 hl (by decide) rfl (fun ls hl => ?_)
                    refine lv_aload_n hC.1 hC.2.1 d_md_timesTo_78 rfl (lv_at hl 5 rfl) ?_
                    refine gf_md_34 hC hw d_md_timesTo_79 ?_
                    refine lv_iload_n hC.1 hC.2.1 d_md_timesTo_82 rfl (lv_at hl 6 rfl) ?_
                    refine ld_34 hC hw (by omega) (by omega) d_md_timesTo_83 ?_
                    have b_8 := iv_34 (mlp_I (sh := sh) (mlr_I (sh := sh) (mm1_I (b := b) hI 8) (by rw [mm1_ne _ _ _ (by decide)]; exact hs) r) (by omega) k) sh.toNat
                    refine lv_aload_n hC.1 hC.2.1 d_md_timesTo_84 rfl (lv_at hl 5 rfl) ?_
                    refine gf_md_19 hC hw d_md_timesTo_85 ?_
                    refine lv_iload hC.1 hC.2.1 d_md_timesTo_88 (lv_at hl 3 rfl) ?_
                    refine ld_29 hC hw (by omega) (by omega) d_md_timesTo_90 ?_
                    have b_9 := iv_29 (mlp_I (sh := sh) (mlr_I (sh := sh) (mm1_I (b := b) hI 8) (by rw [mm1_ne _ _ _ (by decide)]; exact hs) r) (by omega) k) x4.toNat
                    refine ir_gt (tgt := 188) hC.1 hC.2.1 d_md_timesTo_91 (by decide) ⟨by omega, by omega⟩ ⟨by omega, by omega⟩ (fun c_10 => ?_) (fun c_10 => ?_)
                    · skip
                      refine lv_iinc (v := iI (x4 + 1)) (lv' := [(4, .int (iI (x4 + 1))), (7, .int (iI ((mlp (mlr (mm1 S b 8) sh r) sh k) 27 x4.toNat))), (6, .int (iI ((mlp (mlr (mm1 S b 8) sh r) sh k) 26 x4.toNat))), (5, .int (iI (mTk (mlp (mlr (mm1 S b 8) sh r) sh k) sh x4))), (3, .int (iI (x3))), (0, .ref (G.2.1 25)), (1, .int (iI (sh))), (2, .int (iI (b)))]) hC.1 hC.2.1 d_md_timesTo_188 hl (k := 3) rfl (iI_add _ _) (by decide) rfl (fun ls hl => ?_)
                      refine lv_goto (tgt := 42) hC.1 hC.2.1 d_md_timesTo_191 (by decide) ?_
                      exact ih_42 (k + 1) _ (by omega) (by first | rfl | omega) (by omega) _ _ _ (by rw [mlp_s, ← hx4, if_pos (by omega)]; exact hw) (lv_sub hl [0, 4, 5, 6, 7] rfl)
                    · skip
                      refine lv_aload_n hC.1 hC.2.1 d_md_timesTo_94 rfl (lv_at hl 5 rfl) ?_
                      refine gf_md_62 hC hw d_md_timesTo_95 ?_
                      refine lv_iload hC.1 hC.2.1 d_md_timesTo_98 (lv_at hl 1 rfl) ?_
                      refine lv_aload_n hC.1 hC.2.1 d_md_timesTo_100 rfl (lv_at hl 5 rfl) ?_
                      refine gf_md_62 hC hw d_md_timesTo_101 ?_
                      refine lv_iload hC.1 hC.2.1 d_md_timesTo_104 (lv_at hl 0 rfl) ?_
                      refine ld_43 hC hw (by omega) (by omega) d_md_timesTo_106 ?_
                      have b_11 := iv_43 (mlp_I (sh := sh) (mlr_I (sh := sh) (mm1_I (b := b) hI 8) (by rw [mm1_ne _ _ _ (by decide)]; exact hs) r) (by omega) k) (((mlp (mlr (mm1 S b 8) sh r) sh k) 27 x4.toNat).toNat)
                      refine lv_iload hC.1 hC.2.1 d_md_timesTo_107 (lv_at hl 2 rfl) ?_
                      refine ir_add hC.1 hC.2.1 d_md_timesTo_109 ?_
                      refine lv_aload_n hC.1 hC.2.1 d_md_timesTo_110 rfl (lv_at hl 5 rfl) ?_
                      refine gf_md_62 hC hw d_md_timesTo_111 ?_
                      refine lv_iload hC.1 hC.2.1 d_md_timesTo_114 (lv_at hl 1 rfl) ?_
                      refine ld_43 hC hw (by omega) (by omega) d_md_timesTo_116 ?_
                      have b_12 := iv_43 (mlp_I (sh := sh) (mlr_I (sh := sh) (mm1_I (b := b) hI 8) (by rw [mm1_ne _ _ _ (by decide)]; exact hs) r) (by omega) k) (((mlp (mlr (mm1 S b 8) sh r) sh k) 26 x4.toNat).toNat)
                      refine ir_ge (tgt := 133) hC.1 hC.2.1 d_md_timesTo_117 (by decide) ⟨by omega, by omega⟩ ⟨by omega, by omega⟩ (fun c_13 => ?_) (fun c_13 => ?_)
                      · skip
                        refine lv_aload_n hC.1 hC.2.1 d_md_timesTo_133 rfl (lv_at hl 5 rfl) ?_
                        refine gf_md_62 hC hw d_md_timesTo_134 ?_
                        refine lv_iload hC.1 hC.2.1 d_md_timesTo_137 (lv_at hl 1 rfl) ?_
                        refine ld_43 hC hw (by omega) (by omega) d_md_timesTo_139 ?_
                        have b_14 := iv_43 (mlp_I (sh := sh) (mlr_I (sh := sh) (mm1_I (b := b) hI 8) (by rw [mm1_ne _ _ _ (by decide)]; exact hs) r) (by omega) k) (((mlp (mlr (mm1 S b 8) sh r) sh k) 26 x4.toNat).toNat)
                        refine st_43 (x := (mlp (mlr (mm1 S b 8) sh r) sh k) 43 ((mlp (mlr (mm1 S b 8) sh r) sh k) 26 x4.toNat).toNat) (z := (mlp (mlr (mm1 S b 8) sh r) sh k) 26 x4.toNat) hC hw (by omega) (by omega) d_md_timesTo_140 (fun H locs hw => ?_)
                        have hI_15 := Inv.up (q := 43) (i := ((mlp (mlr (mm1 S b 8) sh r) sh k) 26 x4.toNat).toNat) (x := (mlp (mlr (mm1 S b 8) sh r) sh k) 43 ((mlp (mlr (mm1 S b 8) sh r) sh k) 26 x4.toNat).toNat) (mlp_I (sh := sh) (mlr_I (sh := sh) (mm1_I (b := b) hI 8) (by rw [mm1_ne _ _ _ (by decide)]; exact hs) r) (by omega) k) (by omega) (show _ ≤ 1000000 from by omega)
                        refine lv_aload_n hC.1 hC.2.1 d_md_timesTo_141 rfl (lv_at hl 5 rfl) ?_
                        refine gf_md_62 hC hw d_md_timesTo_142 ?_
                        refine lv_iload hC.1 hC.2.1 d_md_timesTo_145 (lv_at hl 0 rfl) ?_
                        refine lv_aload_n hC.1 hC.2.1 d_md_timesTo_147 rfl (lv_at hl 5 rfl) ?_
                        refine gf_md_62 hC hw d_md_timesTo_148 ?_
                        refine lv_iload hC.1 hC.2.1 d_md_timesTo_151 (lv_at hl 1 rfl) ?_
                        refine ld_43 hC hw (by omega) (by omega) d_md_timesTo_153 ?_
                        have b_16 := iv_43 hI_15 (((mlp (mlr (mm1 S b 8) sh r) sh k) 26 x4.toNat).toNat)
                        refine lv_iload hC.1 hC.2.1 d_md_timesTo_154 (lv_at hl 2 rfl) ?_
                        refine ir_add hC.1 hC.2.1 d_md_timesTo_156 ?_
                        refine lv_aload_n hC.1 hC.2.1 d_md_timesTo_157 rfl (lv_at hl 5 rfl) ?_
                        refine gf_md_62 hC hw d_md_timesTo_158 ?_
                        refine lv_iload hC.1 hC.2.1 d_md_timesTo_161 (lv_at hl 0 rfl) ?_
                        refine ld_43 hC hw (by omega) (by omega) d_md_timesTo_163 ?_
                        have b_17 := iv_43 hI_15 (((mlp (mlr (mm1 S b 8) sh r) sh k) 27 x4.toNat).toNat)
                        refine ir_ge (tgt := 180) hC.1 hC.2.1 d_md_timesTo_164 (by decide) ⟨by omega, by omega⟩ ⟨by omega, by omega⟩ (fun c_18 => ?_) (fun c_18 => ?_)
                        · skip
                          refine lv_aload_n hC.1 hC.2.1 d_md_timesTo_180 rfl (lv_at hl 5 rfl) ?_
                          refine gf_md_62 hC hw d_md_timesTo_181 ?_
                          refine lv_iload hC.1 hC.2.1 d_md_timesTo_184 (lv_at hl 0 rfl) ?_
                          refine ld_43 hC hw (by omega) (by omega) d_md_timesTo_186 ?_
                          have b_19 := iv_43 hI_15 (((mlp (mlr (mm1 S b 8) sh r) sh k) 27 x4.toNat).toNat)
                          refine st_43 (x := (s_up (mlp (mlr (mm1 S b 8) sh r) sh k) 43 ((mlp (mlr (mm1 S b 8) sh r) sh k) 26 x4.toNat).toNat ((mlp (mlr (mm1 S b 8) sh r) sh k) 43 ((mlp (mlr (mm1 S b 8) sh r) sh k) 26 x4.toNat).toNat)) 43 ((mlp (mlr (mm1 S b 8) sh r) sh k) 27 x4.toNat).toNat) (z := (mlp (mlr (mm1 S b 8) sh r) sh k) 27 x4.toNat) hC hw (by omega) (by omega) d_md_timesTo_187 (fun H locs hw => ?_)
                          have hI_20 := Inv.up (q := 43) (i := ((mlp (mlr (mm1 S b 8) sh r) sh k) 27 x4.toNat).toNat) (x := (s_up (mlp (mlr (mm1 S b 8) sh r) sh k) 43 ((mlp (mlr (mm1 S b 8) sh r) sh k) 26 x4.toNat).toNat ((mlp (mlr (mm1 S b 8) sh r) sh k) 43 ((mlp (mlr (mm1 S b 8) sh r) sh k) 26 x4.toNat).toNat)) 43 ((mlp (mlr (mm1 S b 8) sh r) sh k) 27 x4.toNat).toNat) hI_15 (by omega) (show _ ≤ 1000000 from by omega)
                          refine lv_iinc (v := iI (x4 + 1)) (lv' := [(4, .int (iI (x4 + 1))), (7, .int (iI ((mlp (mlr (mm1 S b 8) sh r) sh k) 27 x4.toNat))), (6, .int (iI ((mlp (mlr (mm1 S b 8) sh r) sh k) 26 x4.toNat))), (5, .int (iI (mTk (mlp (mlr (mm1 S b 8) sh r) sh k) sh x4))), (3, .int (iI (x3))), (0, .ref (G.2.1 25)), (1, .int (iI (sh))), (2, .int (iI (b)))]) hC.1 hC.2.1 d_md_timesTo_188 hl (k := 3) rfl (iI_add _ _) (by decide) rfl (fun ls hl => ?_)
                          refine lv_goto (tgt := 42) hC.1 hC.2.1 d_md_timesTo_191 (by decide) ?_
                          exact ih_42 (k + 1) _ (by omega) (by first | rfl | omega) (by omega) _ _ _ (by rw [mlp_s, ← hx4, if_neg (by omega)]; first | (rw [mU2_lt (mU1_lt (by omega)) (by omega)]; exact hw) | (rw [mU2_lt (mU1_ge (by omega)) (by omega)]; exact hw) | (rw [mU2_ge (mU1_lt (by omega)) (by omega)]; exact hw) | (rw [mU2_ge (mU1_ge (by omega)) (by omega)]; exact hw)) (lv_sub hl [0, 4, 5, 6, 7] rfl)
                        · skip
                          refine lv_aload_n hC.1 hC.2.1 d_md_timesTo_167 rfl (lv_at hl 5 rfl) ?_
                          refine gf_md_62 hC hw d_md_timesTo_168 ?_
                          refine lv_iload hC.1 hC.2.1 d_md_timesTo_171 (lv_at hl 1 rfl) ?_
                          refine ld_43 hC hw (by omega) (by omega) d_md_timesTo_173 ?_
                          have b_21 := iv_43 hI_15 (((mlp (mlr (mm1 S b 8) sh r) sh k) 26 x4.toNat).toNat)
                          refine lv_iload hC.1 hC.2.1 d_md_timesTo_174 (lv_at hl 2 rfl) ?_
                          refine ir_add hC.1 hC.2.1 d_md_timesTo_176 ?_
                          refine lv_goto (tgt := 187) hC.1 hC.2.1 d_md_timesTo_177 (by decide) ?_
                          refine st_43 (x := ((s_up (mlp (mlr (mm1 S b 8) sh r) sh k) 43 ((mlp (mlr (mm1 S b 8) sh r) sh k) 26 x4.toNat).toNat ((mlp (mlr (mm1 S b 8) sh r) sh k) 43 ((mlp (mlr (mm1 S b 8) sh r) sh k) 26 x4.toNat).toNat)) 43 ((mlp (mlr (mm1 S b 8) sh r) sh k) 26 x4.toNat).toNat) + (mTk (mlp (mlr (mm1 S b 8) sh r) sh k) sh x4)) (z := (mlp (mlr (mm1 S b 8) sh r) sh k) 27 x4.toNat) hC hw (by omega) (by omega) d_md_timesTo_187 (fun H locs hw => ?_)
                          have hI_22 := Inv.up (q := 43) (i := ((mlp (mlr (mm1 S b 8) sh r) sh k) 27 x4.toNat).toNat) (x := ((s_up (mlp (mlr (mm1 S b 8) sh r) sh k) 43 ((mlp (mlr (mm1 S b 8) sh r) sh k) 26 x4.toNat).toNat ((mlp (mlr (mm1 S b 8) sh r) sh k) 43 ((mlp (mlr (mm1 S b 8) sh r) sh k) 26 x4.toNat).toNat)) 43 ((mlp (mlr (mm1 S b 8) sh r) sh k) 26 x4.toNat).toNat) + (mTk (mlp (mlr (mm1 S b 8) sh r) sh k) sh x4)) hI_15 (by omega) (show _ ≤ 1000000 from by omega)
                          refine lv_iinc (v := iI (x4 + 1)) (lv' := [(4, .int (iI (x4 + 1))), (7, .int (iI ((mlp (mlr (mm1 S b 8) sh r) sh k) 27 x4.toNat))), (6, .int (iI ((mlp (mlr (mm1 S b 8) sh r) sh k) 26 x4.toNat))), (5, .int (iI (mTk (mlp (mlr (mm1 S b 8) sh r) sh k) sh x4))), (3, .int (iI (x3))), (0, .ref (G.2.1 25)), (1, .int (iI (sh))), (2, .int (iI (b)))]) hC.1 hC.2.1 d_md_timesTo_188 hl (k := 3) rfl (iI_add _ _) (by decide) rfl (fun ls hl => ?_)
                          refine lv_goto (tgt := 42) hC.1 hC.2.1 d_md_timesTo_191 (by decide) ?_
                          exact ih_42 (k + 1) _ (by omega) (by first | rfl | omega) (by omega) _ _ _ (by rw [mlp_s, ← hx4, if_neg (by omega)]; first | (rw [mU2_lt (mU1_lt (by omega)) (by omega)]; exact hw) | (rw [mU2_lt (mU1_ge (by omega)) (by omega)]; exact hw) | (rw [mU2_ge (mU1_lt (by omega)) (by omega)]; exact hw) | (rw [mU2_ge (mU1_ge (by omega)) (by omega)]; exact hw)) (lv_sub hl [0, 4, 5, 6, 7] rfl)
                      · skip
                        refine lv_aload_n hC.1 hC.2.1 d_md_timesTo_120 rfl (lv_at hl 5 rfl) ?_
                        refine gf_md_62 hC hw d_md_timesTo_121 ?_
                        refine lv_iload hC.1 hC.2.1 d_md_timesTo_124 (lv_at hl 0 rfl) ?_
                        refine ld_43 hC hw (by omega) (by omega) d_md_timesTo_126 ?_
                        have b_23 := iv_43 (mlp_I (sh := sh) (mlr_I (sh := sh) (mm1_I (b := b) hI 8) (by rw [mm1_ne _ _ _ (by decide)]; exact hs) r) (by omega) k) (((mlp (mlr (mm1 S b 8) sh r) sh k) 27 x4.toNat).toNat)
                        refine lv_iload hC.1 hC.2.1 d_md_timesTo_127 (lv_at hl 2 rfl) ?_
                        refine ir_add hC.1 hC.2.1 d_md_timesTo_129 ?_
                        refine lv_goto (tgt := 140) hC.1 hC.2.1 d_md_timesTo_130 (by decide) ?_
                        refine st_43 (x := ((mlp (mlr (mm1 S b 8) sh r) sh k) 43 ((mlp (mlr (mm1 S b 8) sh r) sh k) 27 x4.toNat).toNat) + (mTk (mlp (mlr (mm1 S b 8) sh r) sh k) sh x4)) (z := (mlp (mlr (mm1 S b 8) sh r) sh k) 26 x4.toNat) hC hw (by omega) (by omega) d_md_timesTo_140 (fun H locs hw => ?_)
                        have hI_24 := Inv.up (q := 43) (i := ((mlp (mlr (mm1 S b 8) sh r) sh k) 26 x4.toNat).toNat) (x := ((mlp (mlr (mm1 S b 8) sh r) sh k) 43 ((mlp (mlr (mm1 S b 8) sh r) sh k) 27 x4.toNat).toNat) + (mTk (mlp (mlr (mm1 S b 8) sh r) sh k) sh x4)) (mlp_I (sh := sh) (mlr_I (sh := sh) (mm1_I (b := b) hI 8) (by rw [mm1_ne _ _ _ (by decide)]; exact hs) r) (by omega) k) (by omega) (show _ ≤ 1000000 from by omega)
                        refine lv_aload_n hC.1 hC.2.1 d_md_timesTo_141 rfl (lv_at hl 5 rfl) ?_
                        refine gf_md_62 hC hw d_md_timesTo_142 ?_
                        refine lv_iload hC.1 hC.2.1 d_md_timesTo_145 (lv_at hl 0 rfl) ?_
                        refine lv_aload_n hC.1 hC.2.1 d_md_timesTo_147 rfl (lv_at hl 5 rfl) ?_
                        refine gf_md_62 hC hw d_md_timesTo_148 ?_
                        refine lv_iload hC.1 hC.2.1 d_md_timesTo_151 (lv_at hl 1 rfl) ?_
                        refine ld_43 hC hw (by omega) (by omega) d_md_timesTo_153 ?_
                        have b_25 := iv_43 hI_24 (((mlp (mlr (mm1 S b 8) sh r) sh k) 26 x4.toNat).toNat)
                        refine lv_iload hC.1 hC.2.1 d_md_timesTo_154 (lv_at hl 2 rfl) ?_
                        refine ir_add hC.1 hC.2.1 d_md_timesTo_156 ?_
                        refine lv_aload_n hC.1 hC.2.1 d_md_timesTo_157 rfl (lv_at hl 5 rfl) ?_
                        refine gf_md_62 hC hw d_md_timesTo_158 ?_
                        refine lv_iload hC.1 hC.2.1 d_md_timesTo_161 (lv_at hl 0 rfl) ?_
                        refine ld_43 hC hw (by omega) (by omega) d_md_timesTo_163 ?_
                        have b_26 := iv_43 hI_24 (((mlp (mlr (mm1 S b 8) sh r) sh k) 27 x4.toNat).toNat)
                        refine ir_ge (tgt := 180) hC.1 hC.2.1 d_md_timesTo_164 (by decide) ⟨by omega, by omega⟩ ⟨by omega, by omega⟩ (fun c_27 => ?_) (fun c_27 => ?_)
                        · skip
                          refine lv_aload_n hC.1 hC.2.1 d_md_timesTo_180 rfl (lv_at hl 5 rfl) ?_
                          refine gf_md_62 hC hw d_md_timesTo_181 ?_
                          refine lv_iload hC.1 hC.2.1 d_md_timesTo_184 (lv_at hl 0 rfl) ?_
                          refine ld_43 hC hw (by omega) (by omega) d_md_timesTo_186 ?_
                          have b_28 := iv_43 hI_24 (((mlp (mlr (mm1 S b 8) sh r) sh k) 27 x4.toNat).toNat)
                          refine st_43 (x := (s_up (mlp (mlr (mm1 S b 8) sh r) sh k) 43 ((mlp (mlr (mm1 S b 8) sh r) sh k) 26 x4.toNat).toNat (((mlp (mlr (mm1 S b 8) sh r) sh k) 43 ((mlp (mlr (mm1 S b 8) sh r) sh k) 27 x4.toNat).toNat) + (mTk (mlp (mlr (mm1 S b 8) sh r) sh k) sh x4))) 43 ((mlp (mlr (mm1 S b 8) sh r) sh k) 27 x4.toNat).toNat) (z := (mlp (mlr (mm1 S b 8) sh r) sh k) 27 x4.toNat) hC hw (by omega) (by omega) d_md_timesTo_187 (fun H locs hw => ?_)
                          have hI_29 := Inv.up (q := 43) (i := ((mlp (mlr (mm1 S b 8) sh r) sh k) 27 x4.toNat).toNat) (x := (s_up (mlp (mlr (mm1 S b 8) sh r) sh k) 43 ((mlp (mlr (mm1 S b 8) sh r) sh k) 26 x4.toNat).toNat (((mlp (mlr (mm1 S b 8) sh r) sh k) 43 ((mlp (mlr (mm1 S b 8) sh r) sh k) 27 x4.toNat).toNat) + (mTk (mlp (mlr (mm1 S b 8) sh r) sh k) sh x4))) 43 ((mlp (mlr (mm1 S b 8) sh r) sh k) 27 x4.toNat).toNat) hI_24 (by omega) (show _ ≤ 1000000 from by omega)
                          refine lv_iinc (v := iI (x4 + 1)) (lv' := [(4, .int (iI (x4 + 1))), (7, .int (iI ((mlp (mlr (mm1 S b 8) sh r) sh k) 27 x4.toNat))), (6, .int (iI ((mlp (mlr (mm1 S b 8) sh r) sh k) 26 x4.toNat))), (5, .int (iI (mTk (mlp (mlr (mm1 S b 8) sh r) sh k) sh x4))), (3, .int (iI (x3))), (0, .ref (G.2.1 25)), (1, .int (iI (sh))), (2, .int (iI (b)))]) hC.1 hC.2.1 d_md_timesTo_188 hl (k := 3) rfl (iI_add _ _) (by decide) rfl (fun ls hl => ?_)
                          refine lv_goto (tgt := 42) hC.1 hC.2.1 d_md_timesTo_191 (by decide) ?_
                          exact ih_42 (k + 1) _ (by omega) (by first | rfl | omega) (by omega) _ _ _ (by rw [mlp_s, ← hx4, if_neg (by omega)]; first | (rw [mU2_lt (mU1_lt (by omega)) (by omega)]; exact hw) | (rw [mU2_lt (mU1_ge (by omega)) (by omega)]; exact hw) | (rw [mU2_ge (mU1_lt (by omega)) (by omega)]; exact hw) | (rw [mU2_ge (mU1_ge (by omega)) (by omega)]; exact hw)) (lv_sub hl [0, 4, 5, 6, 7] rfl)
                        · skip
                          refine lv_aload_n hC.1 hC.2.1 d_md_timesTo_167 rfl (lv_at hl 5 rfl) ?_
                          refine gf_md_62 hC hw d_md_timesTo_168 ?_
                          refine lv_iload hC.1 hC.2.1 d_md_timesTo_171 (lv_at hl 1 rfl) ?_
                          refine ld_43 hC hw (by omega) (by omega) d_md_timesTo_173 ?_
                          have b_30 := iv_43 hI_24 (((mlp (mlr (mm1 S b 8) sh r) sh k) 26 x4.toNat).toNat)
                          refine lv_iload hC.1 hC.2.1 d_md_timesTo_174 (lv_at hl 2 rfl) ?_
                          refine ir_add hC.1 hC.2.1 d_md_timesTo_176 ?_
                          refine lv_goto (tgt := 187) hC.1 hC.2.1 d_md_timesTo_177 (by decide) ?_
                          refine st_43 (x := ((s_up (mlp (mlr (mm1 S b 8) sh r) sh k) 43 ((mlp (mlr (mm1 S b 8) sh r) sh k) 26 x4.toNat).toNat (((mlp (mlr (mm1 S b 8) sh r) sh k) 43 ((mlp (mlr (mm1 S b 8) sh r) sh k) 27 x4.toNat).toNat) + (mTk (mlp (mlr (mm1 S b 8) sh r) sh k) sh x4))) 43 ((mlp (mlr (mm1 S b 8) sh r) sh k) 26 x4.toNat).toNat) + (mTk (mlp (mlr (mm1 S b 8) sh r) sh k) sh x4)) (z := (mlp (mlr (mm1 S b 8) sh r) sh k) 27 x4.toNat) hC hw (by omega) (by omega) d_md_timesTo_187 (fun H locs hw => ?_)
                          have hI_31 := Inv.up (q := 43) (i := ((mlp (mlr (mm1 S b 8) sh r) sh k) 27 x4.toNat).toNat) (x := ((s_up (mlp (mlr (mm1 S b 8) sh r) sh k) 43 ((mlp (mlr (mm1 S b 8) sh r) sh k) 26 x4.toNat).toNat (((mlp (mlr (mm1 S b 8) sh r) sh k) 43 ((mlp (mlr (mm1 S b 8) sh r) sh k) 27 x4.toNat).toNat) + (mTk (mlp (mlr (mm1 S b 8) sh r) sh k) sh x4))) 43 ((mlp (mlr (mm1 S b 8) sh r) sh k) 26 x4.toNat).toNat) + (mTk (mlp (mlr (mm1 S b 8) sh r) sh k) sh x4)) hI_24 (by omega) (show _ ≤ 1000000 from by omega)
                          refine lv_iinc (v := iI (x4 + 1)) (lv' := [(4, .int (iI (x4 + 1))), (7, .int (iI ((mlp (mlr (mm1 S b 8) sh r) sh k) 27 x4.toNat))), (6, .int (iI ((mlp (mlr (mm1 S b 8) sh r) sh k) 26 x4.toNat))), (5, .int (iI (mTk (mlp (mlr (mm1 S b 8) sh r) sh k) sh x4))), (3, .int (iI (x3))), (0, .ref (G.2.1 25)), (1, .int (iI (sh))), (2, .int (iI (b)))]) hC.1 hC.2.1 d_md_timesTo_188 hl (k := 3) rfl (iI_add _ _) (by decide) rfl (fun ls hl => ?_)
                          refine lv_goto (tgt := 42) hC.1 hC.2.1 d_md_timesTo_191 (by decide) ?_
                          exact ih_42 (k + 1) _ (by omega) (by first | rfl | omega) (by omega) _ _ _ (by rw [mlp_s, ← hx4, if_neg (by omega)]; first | (rw [mU2_lt (mU1_lt (by omega)) (by omega)]; exact hw) | (rw [mU2_lt (mU1_ge (by omega)) (by omega)]; exact hw) | (rw [mU2_ge (mU1_lt (by omega)) (by omega)]; exact hw) | (rw [mU2_ge (mU1_ge (by omega)) (by omega)]; exact hw)) (lv_sub hl [0, 4, 5, 6, 7] rfl)
              exact loop_42 _ 0 _ (Nat.lt_succ_self _) (by first | rfl | omega) (by omega) _ _ _ hw (lv_sub hl [0, 1, 2, 3, 4] rfl)
        exact loop_33 _ 0 _ (Nat.lt_succ_self _) (by first | rfl | omega) (by omega) _ _ _ (by rw [show k = 8 by omega] at hw; exact hw) (lv_sub hl [0, 1, 2, 3] rfl)
      · skip
        refine lv_aload_n hC.1 hC.2.1 d_md_timesTo_8 rfl (lv_at hl 1 rfl) ?_
        refine gf_md_62 hC hw d_md_timesTo_9 ?_
        refine lv_iload_n hC.1 hC.2.1 d_md_timesTo_12 rfl (lv_at hl 0 rfl) ?_
        refine lv_iload_n hC.1 hC.2.1 d_md_timesTo_13 rfl (lv_at hl 0 rfl) ?_
        refine lv_iload_n hC.1 hC.2.1 d_md_timesTo_14 rfl (lv_at hl 3 rfl) ?_
        refine ir_ne (tgt := 22) hC.1 hC.2.1 d_md_timesTo_15 (by decide) ⟨by omega, by omega⟩ ⟨by omega, by omega⟩ (fun c_32 => ?_) (fun c_32 => ?_)
        · skip
          refine ir_ldc hC 1000000 tw_679 (by decide +kernel) d_md_timesTo_22 ?_
          refine st_43 (x := 1000000) (z := x3) hC hw (by omega) (by omega) d_md_timesTo_24 (fun H locs hw => ?_)
          have hI_33 := Inv.up (q := 43) (i := x3.toNat) (x := 1000000) (mm1_I (b := b) hI k) (by omega) (show _ ≤ 1000000 from by omega)
          refine lv_iinc (v := iI (x3 + 1)) (lv' := [(3, .int (iI (x3 + 1))), (0, .ref (G.2.1 25)), (1, .int (iI (sh))), (2, .int (iI (b)))]) hC.1 hC.2.1 d_md_timesTo_25 hl (k := 0) rfl (iI_add _ _) (by decide) rfl (fun ls hl => ?_)
          refine lv_goto (tgt := 2) hC.1 hC.2.1 d_md_timesTo_28 (by decide) ?_
          exact ih_2 (k + 1) _ (by omega) (by first | rfl | omega) (by omega) _ _ _ (by rw [show x3.toNat = k by omega] at hw; have q : mm1 S b (k + 1) = s_up (mm1 S b k) 43 k 1000000 := (by rw [mm1_s, if_neg (by omega)]); rw [q]; exact hw) (lv_sub hl [0, 1, 2, 3] rfl)
        · skip
          refine lv_iconst (v := iI 0) hC.1 hC.2.1 d_md_timesTo_18 rfl ?_
          refine lv_goto (tgt := 24) hC.1 hC.2.1 d_md_timesTo_19 (by decide) ?_
          refine st_43 (x := 0) (z := x3) hC hw (by omega) (by omega) d_md_timesTo_24 (fun H locs hw => ?_)
          have hI_34 := Inv.up (q := 43) (i := x3.toNat) (x := 0) (mm1_I (b := b) hI k) (by omega) (show _ ≤ 1000000 from by omega)
          refine lv_iinc (v := iI (x3 + 1)) (lv' := [(3, .int (iI (x3 + 1))), (0, .ref (G.2.1 25)), (1, .int (iI (sh))), (2, .int (iI (b)))]) hC.1 hC.2.1 d_md_timesTo_25 hl (k := 0) rfl (iI_add _ _) (by decide) rfl (fun ls hl => ?_)
          refine lv_goto (tgt := 2) hC.1 hC.2.1 d_md_timesTo_28 (by decide) ?_
          exact ih_2 (k + 1) _ (by omega) (by first | rfl | omega) (by omega) _ _ _ (by rw [show x3.toNat = k by omega] at hw; have q : mm1 S b (k + 1) = s_up (mm1 S b k) 43 k 0 := (by rw [mm1_s, if_pos (by omega)]); rw [q]; exact hw) (lv_sub hl [0, 1, 2, 3] rfl)
  exact loop_2 _ 0 _ (Nat.lt_succ_self _) (by first | rfl | omega) (by omega) _ _ _ hw (lv_sub hl [0, 1, 2, 3] rfl)
set_option maxHeartbeats 4000000 in
set_option maxRecDepth 100000 in
theorem c_md_next (l : Launch) (G : Gt) (S : St) (sh : Int) (t : Int) (hI : Inv S) (hsh : 0 ≤ sh ∧ sh < 12) (ht : 0 ≤ t ∧ t ≤ 7) (hs : 1 ≤ S 35 sh.toNat) : Met l y_md_next [.code y_md_next b_md_next 7 (some .int)] { frames := 1, cells := 0, slots := 0, locals := 22 } (va_Pc [.ref (G.2.1 25), .int (iI (sh)), .int (iI (t))] (fun U => wu G S U)) (qR (mNx S sh t)) 0 0 (fun _ => False) := by
  refine mt_of (by decide +kernel) (Nat.le_of_ble_eq_true rfl) ?_
  intro p e s m below meth c ls hadm hC hr hlk hex hw hl
  have hC : CallFix p m c b_md_next 7 s _ tws "ChannelRulesModel" := hC
  have hl : lv_has ls 7 [(0, .ref (G.2.1 25)), (1, .int (iI (sh))), (2, .int (iI (t)))] := hl
  have i1 := iv_25p hI
  refine lv_iconst (v := iI (-1)) hC.1 hC.2.1 d_md_next_0 rfl ?_
  refine lv_istore_n (lv' := [(3, .int (iI ((-1)))), (0, .ref (G.2.1 25)), (1, .int (iI (sh))), (2, .int (iI (t)))]) hC.1 hC.2.1 d_md_next_1 rfl hl (by decide) rfl (fun ls hl => ?_)
  refine lv_aload_n hC.1 hC.2.1 d_md_next_2 rfl (lv_at hl 1 rfl) ?_
  refine gf_md_69 hC hw d_md_next_3 ?_
  have b_1 := iv_25p hI
  refine lv_iconst (v := iI 1) hC.1 hC.2.1 d_md_next_6 rfl ?_
  refine ir_sub hC.1 hC.2.1 d_md_next_7 ?_
  refine lv_istore (lv' := [(4, .int (iI ((S 25 1) - 1))), (3, .int (iI ((-1)))), (0, .ref (G.2.1 25)), (1, .int (iI (sh))), (2, .int (iI (t)))]) hC.1 hC.2.1 d_md_next_8 hl (by decide) rfl (fun ls hl => ?_)
  have loop_10 : ∀ (nn : Nat) (k : Nat) (x3 : Int) (x4 : Int), k < nn → x3 = mNf S sh t k ((S 25 1).toNat - k) → x4 = (k : Int) - 1 → (k : Int) ≤ S 25 1 → (k : Int) = S 25 1 ∨ 0 < S 43 t.toNat → ∀ (ls : Array Slot), lv_has ls 7 [(4, .int (iI (x4))), (3, .int (iI (x3))), (0, .ref (G.2.1 25)), (1, .int (iI (sh))), (2, .int (iI (t)))] → W p l e { frames := 1, cells := 0, slots := 0, locals := 22 } s m ([.ref (G.2.1 25), .int (iI (sh)), .int (iI (t))] : List Value).toArray below meth c s.heap [] 0 0 (MQ below (qR (mNx S sh t)) ([.ref (G.2.1 25), .int (iI (sh)), .int (iI (t))] : List Value).toArray s 0 0 (fun _ => False)) (F0 m 10 ls []) := by
    intro nn
    induction nn with
    | zero => intros; omega
    | succ nn ih_10 =>
      intro k x3 x4 hms_10 hx3 hx4 hv0 hv1 ls hl
      have nb := mNf_b S sh t k ((S 25 1).toNat - k)
      refine lv_iload hC.1 hC.2.1 d_md_next_10 (lv_at hl 0 rfl) ?_
      refine ir_if_lt (tgt := 148) hC.1 hC.2.1 d_md_next_12 (by decide) ⟨by omega, by omega⟩ (fun c_2 => ?_) (fun c_2 => ?_)
      · skip
        refine lv_iload_n hC.1 hC.2.1 d_md_next_148 rfl (lv_at hl 1 rfl) ?_
        exact rt_R hC hr hlk (by unfold mNx; by_cases hz : 0 < S 43 t.toNat; (rw [if_pos hz, hx3, show k = 0 by omega]; rfl); (rw [if_neg hz, hx3, show (S 25 1).toNat - k = 0 by omega]; rfl)) d_md_next_149
      · skip
        refine lv_aload_n hC.1 hC.2.1 d_md_next_15 rfl (lv_at hl 2 rfl) ?_
        refine gf_md_62 hC hw d_md_next_16 ?_
        refine lv_iload_n hC.1 hC.2.1 d_md_next_19 rfl (lv_at hl 4 rfl) ?_
        refine ld_43 hC hw (by omega) (by omega) d_md_next_20 ?_
        have b_3 := iv_43 hI t.toNat
        refine ir_if_le (tgt := 148) hC.1 hC.2.1 d_md_next_21 (by decide) ⟨by omega, by omega⟩ (fun c_4 => ?_) (fun c_4 => ?_)
        · skip
          refine lv_iload_n hC.1 hC.2.1 d_md_next_148 rfl (lv_at hl 1 rfl) ?_
          exact rt_R hC hr hlk (by unfold mNx; by_cases hz : 0 < S 43 t.toNat; (rw [if_pos hz, hx3, show k = 0 by omega]; rfl); (rw [if_neg hz, hx3, show (S 25 1).toNat - k = 0 by omega]; rfl)) d_md_next_149
        · skip
          refine lv_aload_n hC.1 hC.2.1 d_md_next_24 rfl (lv_at hl 2 rfl) ?_
          refine gf_md_7 hC hw d_md_next_25 ?_
          refine lv_iload hC.1 hC.2.1 d_md_next_28 (lv_at hl 0 rfl) ?_
          refine ld_26 hC hw (by omega) (by omega) d_md_next_30 ?_
          have b_5 := iv_26 hI x4.toNat
          refine lv_iload_n hC.1 hC.2.1 d_md_next_31 rfl (lv_at hl 4 rfl) ?_
          refine ir_ne (tgt := 45) hC.1 hC.2.1 d_md_next_32 (by decide) ⟨by omega, by omega⟩ ⟨by omega, by omega⟩ (fun c_6 => ?_) (fun c_6 => ?_)
          · skip
            refine lv_aload_n hC.1 hC.2.1 d_md_next_45 rfl (lv_at hl 2 rfl) ?_
            refine gf_md_13 hC hw d_md_next_46 ?_
            refine lv_iload hC.1 hC.2.1 d_md_next_49 (lv_at hl 0 rfl) ?_
            refine ld_27 hC hw (by omega) (by omega) d_md_next_51 ?_
            have b_7 := iv_27 hI x4.toNat
            refine lv_iload_n hC.1 hC.2.1 d_md_next_52 rfl (lv_at hl 4 rfl) ?_
            refine ir_ne (tgt := 66) hC.1 hC.2.1 d_md_next_53 (by decide) ⟨by omega, by omega⟩ ⟨by omega, by omega⟩ (fun c_8 => ?_) (fun c_8 => ?_)
            · skip
              refine lv_iconst (v := iI (-1)) hC.1 hC.2.1 d_md_next_66 rfl ?_
              refine lv_istore (lv' := [(5, .int (iI ((-1)))), (4, .int (iI (x4))), (3, .int (iI (x3))), (0, .ref (G.2.1 25)), (1, .int (iI (sh))), (2, .int (iI (t)))]) hC.1 hC.2.1 d_md_next_67 hl (by decide) rfl (fun ls hl => ?_)
              refine lv_iload hC.1 hC.2.1 d_md_next_69 (lv_at hl 0 rfl) ?_
              refine ir_if_lt (tgt := 127) hC.1 hC.2.1 d_md_next_71 (by decide) (by decide) (fun c_9 => ?_) (fun c_9 => ?_)
              · skip
                refine lv_iconst (v := iI 0) hC.1 hC.2.1 d_md_next_127 rfl ?_
                refine lv_istore (lv' := [(6, .int (iI (0))), (5, .int (iI ((-1)))), (4, .int (iI (x4))), (3, .int (iI (x3))), (0, .ref (G.2.1 25)), (1, .int (iI (sh))), (2, .int (iI (t)))]) hC.1 hC.2.1 d_md_next_128 hl (by decide) rfl (fun ls hl => ?_)
                refine lv_iload hC.1 hC.2.1 d_md_next_130 (lv_at hl 0 rfl) ?_
                refine ir_if_eq (tgt := 140) hC.1 hC.2.1 d_md_next_132 (by decide) (by decide) (fun c_10 => ?_) (fun c_10 => ?_)
                · skip
                  refine lv_iload_n hC.1 hC.2.1 d_md_next_140 rfl (lv_at hl 3 rfl) ?_
                  refine lv_istore_n (lv' := [(3, .int (iI (x3))), (6, .int (iI (0))), (5, .int (iI ((-1)))), (4, .int (iI (x4))), (0, .ref (G.2.1 25)), (1, .int (iI (sh))), (2, .int (iI (t)))]) hC.1 hC.2.1 d_md_next_141 rfl hl (by decide) rfl (fun ls hl => ?_)
                  refine lv_iinc (v := iI (x4 + (-1))) (lv' := [(4, .int (iI (x4 + (-1)))), (3, .int (iI (x3))), (6, .int (iI (0))), (5, .int (iI ((-1)))), (0, .ref (G.2.1 25)), (1, .int (iI (sh))), (2, .int (iI (t)))]) hC.1 hC.2.1 d_md_next_142 hl (k := 3) rfl (iI_add _ _) (by decide) rfl (fun ls hl => ?_)
                  refine lv_goto (tgt := 10) hC.1 hC.2.1 d_md_next_145 (by decide) ?_
                  exact ih_10 (k - 1) _ _ (by omega) (by have g := mNf_s S sh t k (S 25 1).toNat x4 hx4 (by omega) (by omega); rw [g]; unfold mOe; first | (simp [c_2, c_4, c_6, c_8]; done) | (simp [c_2, c_4, c_6, c_8]; omega) | (rw [if_neg (by simp [c_2, c_4, c_6, c_8]; omega)]; omega) | (rw [if_pos (by simp [c_2, c_4, c_6, c_8]; omega)]) | omega) (by first | rfl | omega) (by omega) (by omega) _ (lv_sub hl [0, 1, 4, 5, 6] rfl)
                · exact absurd c_10 (by decide)
              · exact absurd c_9 (by decide)
            · skip
              refine lv_aload_n hC.1 hC.2.1 d_md_next_56 rfl (lv_at hl 2 rfl) ?_
              refine gf_md_7 hC hw d_md_next_57 ?_
              refine lv_iload hC.1 hC.2.1 d_md_next_60 (lv_at hl 0 rfl) ?_
              refine ld_26 hC hw (by omega) (by omega) d_md_next_62 ?_
              have b_11 := iv_26 hI x4.toNat
              refine lv_goto (tgt := 67) hC.1 hC.2.1 d_md_next_63 (by decide) ?_
              refine lv_istore (lv' := [(5, .int (iI (S 26 x4.toNat))), (4, .int (iI (x4))), (3, .int (iI (x3))), (0, .ref (G.2.1 25)), (1, .int (iI (sh))), (2, .int (iI (t)))]) hC.1 hC.2.1 d_md_next_67 hl (by decide) rfl (fun ls hl => ?_)
              refine lv_iload hC.1 hC.2.1 d_md_next_69 (lv_at hl 0 rfl) ?_
              refine ir_if_lt (tgt := 127) hC.1 hC.2.1 d_md_next_71 (by decide) ⟨by omega, by omega⟩ (fun c_12 => ?_) (fun c_12 => ?_)
              · skip
                refine lv_iconst (v := iI 0) hC.1 hC.2.1 d_md_next_127 rfl ?_
                refine lv_istore (lv' := [(6, .int (iI (0))), (5, .int (iI (S 26 x4.toNat))), (4, .int (iI (x4))), (3, .int (iI (x3))), (0, .ref (G.2.1 25)), (1, .int (iI (sh))), (2, .int (iI (t)))]) hC.1 hC.2.1 d_md_next_128 hl (by decide) rfl (fun ls hl => ?_)
                refine lv_iload hC.1 hC.2.1 d_md_next_130 (lv_at hl 0 rfl) ?_
                refine ir_if_eq (tgt := 140) hC.1 hC.2.1 d_md_next_132 (by decide) (by decide) (fun c_13 => ?_) (fun c_13 => ?_)
                · skip
                  refine lv_iload_n hC.1 hC.2.1 d_md_next_140 rfl (lv_at hl 3 rfl) ?_
                  refine lv_istore_n (lv' := [(3, .int (iI (x3))), (6, .int (iI (0))), (5, .int (iI (S 26 x4.toNat))), (4, .int (iI (x4))), (0, .ref (G.2.1 25)), (1, .int (iI (sh))), (2, .int (iI (t)))]) hC.1 hC.2.1 d_md_next_141 rfl hl (by decide) rfl (fun ls hl => ?_)
                  refine lv_iinc (v := iI (x4 + (-1))) (lv' := [(4, .int (iI (x4 + (-1)))), (3, .int (iI (x3))), (6, .int (iI (0))), (5, .int (iI (S 26 x4.toNat))), (0, .ref (G.2.1 25)), (1, .int (iI (sh))), (2, .int (iI (t)))]) hC.1 hC.2.1 d_md_next_142 hl (k := 3) rfl (iI_add _ _) (by decide) rfl (fun ls hl => ?_)
                  refine lv_goto (tgt := 10) hC.1 hC.2.1 d_md_next_145 (by decide) ?_
                  exact ih_10 (k - 1) _ _ (by omega) (by have g := mNf_s S sh t k (S 25 1).toNat x4 hx4 (by omega) (by omega); rw [g]; unfold mOe; first | (simp [c_2, c_4, c_6, c_8, c_12]; done) | (simp [c_2, c_4, c_6, c_8, c_12]; omega) | (rw [if_neg (by simp [c_2, c_4, c_6, c_8, c_12]; omega)]; omega) | (rw [if_pos (by simp [c_2, c_4, c_6, c_8, c_12]; omega)]) | omega) (by first | rfl | omega) (by omega) (by omega) _ (lv_sub hl [0, 1, 4, 5, 6] rfl)
                · exact absurd c_13 (by decide)
              · skip
                refine lv_aload_n hC.1 hC.2.1 d_md_next_74 rfl (lv_at hl 3 rfl) ?_
                refine gf_md_34 hC hw d_md_next_75 ?_
                refine lv_iload_n hC.1 hC.2.1 d_md_next_78 rfl (lv_at hl 4 rfl) ?_
                refine ld_34 hC hw (by omega) (by omega) d_md_next_79 ?_
                have b_14 := iv_34 hI sh.toNat
                refine lv_aload_n hC.1 hC.2.1 d_md_next_80 rfl (lv_at hl 3 rfl) ?_
                refine gf_md_19 hC hw d_md_next_81 ?_
                refine lv_iload hC.1 hC.2.1 d_md_next_84 (lv_at hl 1 rfl) ?_
                refine ld_29 hC hw (by omega) (by omega) d_md_next_86 ?_
                have b_15 := iv_29 hI x4.toNat
                refine ir_gt (tgt := 127) hC.1 hC.2.1 d_md_next_87 (by decide) ⟨by omega, by omega⟩ ⟨by omega, by omega⟩ (fun c_16 => ?_) (fun c_16 => ?_)
                · skip
                  refine lv_iconst (v := iI 0) hC.1 hC.2.1 d_md_next_127 rfl ?_
                  refine lv_istore (lv' := [(6, .int (iI (0))), (5, .int (iI (S 26 x4.toNat))), (4, .int (iI (x4))), (3, .int (iI (x3))), (0, .ref (G.2.1 25)), (1, .int (iI (sh))), (2, .int (iI (t)))]) hC.1 hC.2.1 d_md_next_128 hl (by decide) rfl (fun ls hl => ?_)
                  refine lv_iload hC.1 hC.2.1 d_md_next_130 (lv_at hl 0 rfl) ?_
                  refine ir_if_eq (tgt := 140) hC.1 hC.2.1 d_md_next_132 (by decide) (by decide) (fun c_17 => ?_) (fun c_17 => ?_)
                  · skip
                    refine lv_iload_n hC.1 hC.2.1 d_md_next_140 rfl (lv_at hl 3 rfl) ?_
                    refine lv_istore_n (lv' := [(3, .int (iI (x3))), (6, .int (iI (0))), (5, .int (iI (S 26 x4.toNat))), (4, .int (iI (x4))), (0, .ref (G.2.1 25)), (1, .int (iI (sh))), (2, .int (iI (t)))]) hC.1 hC.2.1 d_md_next_141 rfl hl (by decide) rfl (fun ls hl => ?_)
                    refine lv_iinc (v := iI (x4 + (-1))) (lv' := [(4, .int (iI (x4 + (-1)))), (3, .int (iI (x3))), (6, .int (iI (0))), (5, .int (iI (S 26 x4.toNat))), (0, .ref (G.2.1 25)), (1, .int (iI (sh))), (2, .int (iI (t)))]) hC.1 hC.2.1 d_md_next_142 hl (k := 3) rfl (iI_add _ _) (by decide) rfl (fun ls hl => ?_)
                    refine lv_goto (tgt := 10) hC.1 hC.2.1 d_md_next_145 (by decide) ?_
                    exact ih_10 (k - 1) _ _ (by omega) (by have g := mNf_s S sh t k (S 25 1).toNat x4 hx4 (by omega) (by omega); rw [g]; unfold mOe; first | (simp [c_2, c_4, c_6, c_8, c_12, c_16]; done) | (simp [c_2, c_4, c_6, c_8, c_12, c_16]; omega) | (rw [if_neg (by simp [c_2, c_4, c_6, c_8, c_12, c_16]; omega)]; omega) | (rw [if_pos (by simp [c_2, c_4, c_6, c_8, c_12, c_16]; omega)]) | omega) (by first | rfl | omega) (by omega) (by omega) _ (lv_sub hl [0, 1, 4, 5, 6] rfl)
                  · exact absurd c_17 (by decide)
                · skip
                  refine lv_aload_n hC.1 hC.2.1 d_md_next_90 rfl (lv_at hl 3 rfl) ?_
                  refine gf_md_62 hC hw d_md_next_91 ?_
                  refine lv_iload_n hC.1 hC.2.1 d_md_next_94 rfl (lv_at hl 5 rfl) ?_
                  refine ld_43 hC hw (by omega) (by omega) d_md_next_95 ?_
                  have b_18 := iv_43 hI t.toNat
                  refine lv_aload_n hC.1 hC.2.1 d_md_next_96 rfl (lv_at hl 3 rfl) ?_
                  refine lv_iload_n hC.1 hC.2.1 d_md_next_97 rfl (lv_at hl 4 rfl) ?_
                  refine lv_iload hC.1 hC.2.1 d_md_next_98 (lv_at hl 1 rfl) ?_
                  refine go_R (ca_V (As := [.int (iI (sh)), .int (iI (x4))]) (rest := [.int (iI (S 43 t.toNat))]) hC hw (c_md_takes l G S sh x4 hI (by omega) (by omega) (by omega)) (cv_md_102 hC rfl rfl (Nat.le_of_ble_eq_true rfl) (Nat.le_of_ble_eq_true rfl)) (by decide) rfl rfl rfl hl.1 rfl (Nat.le_of_ble_eq_true rfl) d_md_next_100 ⟨Nat.le_of_ble_eq_true rfl, Nat.le_of_ble_eq_true rfl⟩) ?_
                  have r_19 := mTk_b hI (show 1 ≤ S 35 sh.toNat by omega) x4
                  refine lv_aload_n hC.1 hC.2.1 d_md_next_103 rfl (lv_at hl 3 rfl) ?_
                  refine gf_md_62 hC hw d_md_next_104 ?_
                  refine lv_iload hC.1 hC.2.1 d_md_next_107 (lv_at hl 0 rfl) ?_
                  refine ir_if_lt (tgt := 117) hC.1 hC.2.1 d_md_next_109 (by decide) ⟨by omega, by omega⟩ (fun c_20 => ?_) (fun c_20 => ?_)
                  · skip
                    refine lv_iconst (v := iI 0) hC.1 hC.2.1 d_md_next_117 rfl ?_
                    refine lc_43 0 hC hw (by decide) d_md_next_118 ?_
                    have b_21 := iv_43 hI 0
                    refine ir_add hC.1 hC.2.1 d_md_next_119 ?_
                    refine ir_ne (tgt := 127) hC.1 hC.2.1 d_md_next_120 (by decide) ⟨by omega, by omega⟩ ⟨by omega, by omega⟩ (fun c_22 => ?_) (fun c_22 => ?_)
                    · skip
                      refine lv_iconst (v := iI 0) hC.1 hC.2.1 d_md_next_127 rfl ?_
                      refine lv_istore (lv' := [(6, .int (iI (0))), (5, .int (iI (S 26 x4.toNat))), (4, .int (iI (x4))), (3, .int (iI (x3))), (0, .ref (G.2.1 25)), (1, .int (iI (sh))), (2, .int (iI (t)))]) hC.1 hC.2.1 d_md_next_128 hl (by decide) rfl (fun ls hl => ?_)
                      refine lv_iload hC.1 hC.2.1 d_md_next_130 (lv_at hl 0 rfl) ?_
                      refine ir_if_eq (tgt := 140) hC.1 hC.2.1 d_md_next_132 (by decide) (by decide) (fun c_23 => ?_) (fun c_23 => ?_)
                      · skip
                        refine lv_iload_n hC.1 hC.2.1 d_md_next_140 rfl (lv_at hl 3 rfl) ?_
                        refine lv_istore_n (lv' := [(3, .int (iI (x3))), (6, .int (iI (0))), (5, .int (iI (S 26 x4.toNat))), (4, .int (iI (x4))), (0, .ref (G.2.1 25)), (1, .int (iI (sh))), (2, .int (iI (t)))]) hC.1 hC.2.1 d_md_next_141 rfl hl (by decide) rfl (fun ls hl => ?_)
                        refine lv_iinc (v := iI (x4 + (-1))) (lv' := [(4, .int (iI (x4 + (-1)))), (3, .int (iI (x3))), (6, .int (iI (0))), (5, .int (iI (S 26 x4.toNat))), (0, .ref (G.2.1 25)), (1, .int (iI (sh))), (2, .int (iI (t)))]) hC.1 hC.2.1 d_md_next_142 hl (k := 3) rfl (iI_add _ _) (by decide) rfl (fun ls hl => ?_)
                        refine lv_goto (tgt := 10) hC.1 hC.2.1 d_md_next_145 (by decide) ?_
                        exact ih_10 (k - 1) _ _ (by omega) (by have g := mNf_s S sh t k (S 25 1).toNat x4 hx4 (by omega) (by omega); rw [g]; unfold mOe; first | (simp [c_2, c_4, c_6, c_8, c_12, c_16, c_20, c_22]; done) | (simp [c_2, c_4, c_6, c_8, c_12, c_16, c_20, c_22]; omega) | (rw [if_neg (by simp [c_2, c_4, c_6, c_8, c_12, c_16, c_20, c_22]; omega)]; omega) | (rw [if_pos (by simp [c_2, c_4, c_6, c_8, c_12, c_16, c_20, c_22]; omega)]) | omega) (by first | rfl | omega) (by omega) (by omega) _ (lv_sub hl [0, 1, 4, 5, 6] rfl)
                      · exact absurd c_23 (by decide)
                    · skip
                      refine lv_iconst (v := iI 1) hC.1 hC.2.1 d_md_next_123 rfl ?_
                      refine lv_goto (tgt := 128) hC.1 hC.2.1 d_md_next_124 (by decide) ?_
                      refine lv_istore (lv' := [(6, .int (iI (1))), (5, .int (iI (S 26 x4.toNat))), (4, .int (iI (x4))), (3, .int (iI (x3))), (0, .ref (G.2.1 25)), (1, .int (iI (sh))), (2, .int (iI (t)))]) hC.1 hC.2.1 d_md_next_128 hl (by decide) rfl (fun ls hl => ?_)
                      refine lv_iload hC.1 hC.2.1 d_md_next_130 (lv_at hl 0 rfl) ?_
                      refine ir_if_eq (tgt := 140) hC.1 hC.2.1 d_md_next_132 (by decide) (by decide) (fun c_24 => ?_) (fun c_24 => ?_)
                      · exact absurd c_24 (by decide)
                      · skip
                        refine lv_iload hC.1 hC.2.1 d_md_next_135 (lv_at hl 2 rfl) ?_
                        refine lv_goto (tgt := 141) hC.1 hC.2.1 d_md_next_137 (by decide) ?_
                        refine lv_istore_n (lv' := [(3, .int (iI (x4))), (6, .int (iI (1))), (5, .int (iI (S 26 x4.toNat))), (4, .int (iI (x4))), (0, .ref (G.2.1 25)), (1, .int (iI (sh))), (2, .int (iI (t)))]) hC.1 hC.2.1 d_md_next_141 rfl hl (by decide) rfl (fun ls hl => ?_)
                        refine lv_iinc (v := iI (x4 + (-1))) (lv' := [(4, .int (iI (x4 + (-1)))), (3, .int (iI (x4))), (6, .int (iI (1))), (5, .int (iI (S 26 x4.toNat))), (0, .ref (G.2.1 25)), (1, .int (iI (sh))), (2, .int (iI (t)))]) hC.1 hC.2.1 d_md_next_142 hl (k := 3) rfl (iI_add _ _) (by decide) rfl (fun ls hl => ?_)
                        refine lv_goto (tgt := 10) hC.1 hC.2.1 d_md_next_145 (by decide) ?_
                        exact ih_10 (k - 1) _ _ (by omega) (by have g := mNf_s S sh t k (S 25 1).toNat x4 hx4 (by omega) (by omega); rw [g]; unfold mOe; first | (simp [c_2, c_4, c_6, c_8, c_12, c_16, c_20, c_22]; done) | (simp [c_2, c_4, c_6, c_8, c_12, c_16, c_20, c_22]; omega) | (rw [if_neg (by simp [c_2, c_4, c_6, c_8, c_12, c_16, c_20, c_22]; omega)]; omega) | (rw [if_pos (by simp [c_2, c_4, c_6, c_8, c_12, c_16, c_20, c_22]; omega)]) | omega) (by first | rfl | omega) (by omega) (by omega) _ (lv_sub hl [0, 1, 4, 5, 6] rfl)
                  · skip
                    refine lv_iload hC.1 hC.2.1 d_md_next_112 (lv_at hl 0 rfl) ?_
                    refine lv_goto (tgt := 118) hC.1 hC.2.1 d_md_next_114 (by decide) ?_
                    refine ld_43 hC hw (by omega) (by omega) d_md_next_118 ?_
                    have b_25 := iv_43 hI ((S 26 x4.toNat).toNat)
                    refine ir_add hC.1 hC.2.1 d_md_next_119 ?_
                    refine ir_ne (tgt := 127) hC.1 hC.2.1 d_md_next_120 (by decide) ⟨by omega, by omega⟩ ⟨by omega, by omega⟩ (fun c_26 => ?_) (fun c_26 => ?_)
                    · skip
                      refine lv_iconst (v := iI 0) hC.1 hC.2.1 d_md_next_127 rfl ?_
                      refine lv_istore (lv' := [(6, .int (iI (0))), (5, .int (iI (S 26 x4.toNat))), (4, .int (iI (x4))), (3, .int (iI (x3))), (0, .ref (G.2.1 25)), (1, .int (iI (sh))), (2, .int (iI (t)))]) hC.1 hC.2.1 d_md_next_128 hl (by decide) rfl (fun ls hl => ?_)
                      refine lv_iload hC.1 hC.2.1 d_md_next_130 (lv_at hl 0 rfl) ?_
                      refine ir_if_eq (tgt := 140) hC.1 hC.2.1 d_md_next_132 (by decide) (by decide) (fun c_27 => ?_) (fun c_27 => ?_)
                      · skip
                        refine lv_iload_n hC.1 hC.2.1 d_md_next_140 rfl (lv_at hl 3 rfl) ?_
                        refine lv_istore_n (lv' := [(3, .int (iI (x3))), (6, .int (iI (0))), (5, .int (iI (S 26 x4.toNat))), (4, .int (iI (x4))), (0, .ref (G.2.1 25)), (1, .int (iI (sh))), (2, .int (iI (t)))]) hC.1 hC.2.1 d_md_next_141 rfl hl (by decide) rfl (fun ls hl => ?_)
                        refine lv_iinc (v := iI (x4 + (-1))) (lv' := [(4, .int (iI (x4 + (-1)))), (3, .int (iI (x3))), (6, .int (iI (0))), (5, .int (iI (S 26 x4.toNat))), (0, .ref (G.2.1 25)), (1, .int (iI (sh))), (2, .int (iI (t)))]) hC.1 hC.2.1 d_md_next_142 hl (k := 3) rfl (iI_add _ _) (by decide) rfl (fun ls hl => ?_)
                        refine lv_goto (tgt := 10) hC.1 hC.2.1 d_md_next_145 (by decide) ?_
                        exact ih_10 (k - 1) _ _ (by omega) (by have g := mNf_s S sh t k (S 25 1).toNat x4 hx4 (by omega) (by omega); rw [g]; unfold mOe; first | (simp [c_2, c_4, c_6, c_8, c_12, c_16, c_20, c_26]; done) | (simp [c_2, c_4, c_6, c_8, c_12, c_16, c_20, c_26]; omega) | (rw [if_neg (by simp [c_2, c_4, c_6, c_8, c_12, c_16, c_20, c_26]; omega)]; omega) | (rw [if_pos (by simp [c_2, c_4, c_6, c_8, c_12, c_16, c_20, c_26]; omega)]) | omega) (by first | rfl | omega) (by omega) (by omega) _ (lv_sub hl [0, 1, 4, 5, 6] rfl)
                      · exact absurd c_27 (by decide)
                    · skip
                      refine lv_iconst (v := iI 1) hC.1 hC.2.1 d_md_next_123 rfl ?_
                      refine lv_goto (tgt := 128) hC.1 hC.2.1 d_md_next_124 (by decide) ?_
                      refine lv_istore (lv' := [(6, .int (iI (1))), (5, .int (iI (S 26 x4.toNat))), (4, .int (iI (x4))), (3, .int (iI (x3))), (0, .ref (G.2.1 25)), (1, .int (iI (sh))), (2, .int (iI (t)))]) hC.1 hC.2.1 d_md_next_128 hl (by decide) rfl (fun ls hl => ?_)
                      refine lv_iload hC.1 hC.2.1 d_md_next_130 (lv_at hl 0 rfl) ?_
                      refine ir_if_eq (tgt := 140) hC.1 hC.2.1 d_md_next_132 (by decide) (by decide) (fun c_28 => ?_) (fun c_28 => ?_)
                      · exact absurd c_28 (by decide)
                      · skip
                        refine lv_iload hC.1 hC.2.1 d_md_next_135 (lv_at hl 2 rfl) ?_
                        refine lv_goto (tgt := 141) hC.1 hC.2.1 d_md_next_137 (by decide) ?_
                        refine lv_istore_n (lv' := [(3, .int (iI (x4))), (6, .int (iI (1))), (5, .int (iI (S 26 x4.toNat))), (4, .int (iI (x4))), (0, .ref (G.2.1 25)), (1, .int (iI (sh))), (2, .int (iI (t)))]) hC.1 hC.2.1 d_md_next_141 rfl hl (by decide) rfl (fun ls hl => ?_)
                        refine lv_iinc (v := iI (x4 + (-1))) (lv' := [(4, .int (iI (x4 + (-1)))), (3, .int (iI (x4))), (6, .int (iI (1))), (5, .int (iI (S 26 x4.toNat))), (0, .ref (G.2.1 25)), (1, .int (iI (sh))), (2, .int (iI (t)))]) hC.1 hC.2.1 d_md_next_142 hl (k := 3) rfl (iI_add _ _) (by decide) rfl (fun ls hl => ?_)
                        refine lv_goto (tgt := 10) hC.1 hC.2.1 d_md_next_145 (by decide) ?_
                        exact ih_10 (k - 1) _ _ (by omega) (by have g := mNf_s S sh t k (S 25 1).toNat x4 hx4 (by omega) (by omega); rw [g]; unfold mOe; first | (simp [c_2, c_4, c_6, c_8, c_12, c_16, c_20, c_26]; done) | (simp [c_2, c_4, c_6, c_8, c_12, c_16, c_20, c_26]; omega) | (rw [if_neg (by simp [c_2, c_4, c_6, c_8, c_12, c_16, c_20, c_26]; omega)]; omega) | (rw [if_pos (by simp [c_2, c_4, c_6, c_8, c_12, c_16, c_20, c_26]; omega)]) | omega) (by first | rfl | omega) (by omega) (by omega) _ (lv_sub hl [0, 1, 4, 5, 6] rfl)
          · skip
            refine lv_aload_n hC.1 hC.2.1 d_md_next_35 rfl (lv_at hl 2 rfl) ?_
            refine gf_md_13 hC hw d_md_next_36 ?_
            refine lv_iload hC.1 hC.2.1 d_md_next_39 (lv_at hl 0 rfl) ?_
            refine ld_27 hC hw (by omega) (by omega) d_md_next_41 ?_
            have b_29 := iv_27 hI x4.toNat
            refine lv_goto (tgt := 67) hC.1 hC.2.1 d_md_next_42 (by decide) ?_
            refine lv_istore (lv' := [(5, .int (iI (S 27 x4.toNat))), (4, .int (iI (x4))), (3, .int (iI (x3))), (0, .ref (G.2.1 25)), (1, .int (iI (sh))), (2, .int (iI (t)))]) hC.1 hC.2.1 d_md_next_67 hl (by decide) rfl (fun ls hl => ?_)
            refine lv_iload hC.1 hC.2.1 d_md_next_69 (lv_at hl 0 rfl) ?_
            refine ir_if_lt (tgt := 127) hC.1 hC.2.1 d_md_next_71 (by decide) ⟨by omega, by omega⟩ (fun c_30 => ?_) (fun c_30 => ?_)
            · skip
              refine lv_iconst (v := iI 0) hC.1 hC.2.1 d_md_next_127 rfl ?_
              refine lv_istore (lv' := [(6, .int (iI (0))), (5, .int (iI (S 27 x4.toNat))), (4, .int (iI (x4))), (3, .int (iI (x3))), (0, .ref (G.2.1 25)), (1, .int (iI (sh))), (2, .int (iI (t)))]) hC.1 hC.2.1 d_md_next_128 hl (by decide) rfl (fun ls hl => ?_)
              refine lv_iload hC.1 hC.2.1 d_md_next_130 (lv_at hl 0 rfl) ?_
              refine ir_if_eq (tgt := 140) hC.1 hC.2.1 d_md_next_132 (by decide) (by decide) (fun c_31 => ?_) (fun c_31 => ?_)
              · skip
                refine lv_iload_n hC.1 hC.2.1 d_md_next_140 rfl (lv_at hl 3 rfl) ?_
                refine lv_istore_n (lv' := [(3, .int (iI (x3))), (6, .int (iI (0))), (5, .int (iI (S 27 x4.toNat))), (4, .int (iI (x4))), (0, .ref (G.2.1 25)), (1, .int (iI (sh))), (2, .int (iI (t)))]) hC.1 hC.2.1 d_md_next_141 rfl hl (by decide) rfl (fun ls hl => ?_)
                refine lv_iinc (v := iI (x4 + (-1))) (lv' := [(4, .int (iI (x4 + (-1)))), (3, .int (iI (x3))), (6, .int (iI (0))), (5, .int (iI (S 27 x4.toNat))), (0, .ref (G.2.1 25)), (1, .int (iI (sh))), (2, .int (iI (t)))]) hC.1 hC.2.1 d_md_next_142 hl (k := 3) rfl (iI_add _ _) (by decide) rfl (fun ls hl => ?_)
                refine lv_goto (tgt := 10) hC.1 hC.2.1 d_md_next_145 (by decide) ?_
                exact ih_10 (k - 1) _ _ (by omega) (by have g := mNf_s S sh t k (S 25 1).toNat x4 hx4 (by omega) (by omega); rw [g]; unfold mOe; first | (simp [c_2, c_4, c_6, c_30]; done) | (simp [c_2, c_4, c_6, c_30]; omega) | (rw [if_neg (by simp [c_2, c_4, c_6, c_30]; omega)]; omega) | (rw [if_pos (by simp [c_2, c_4, c_6, c_30]; omega)]) | omega) (by first | rfl | omega) (by omega) (by omega) _ (lv_sub hl [0, 1, 4, 5, 6] rfl)
              · exact absurd c_31 (by decide)
            · skip
              refine lv_aload_n hC.1 hC.2.1 d_md_next_74 rfl (lv_at hl 3 rfl) ?_
              refine gf_md_34 hC hw d_md_next_75 ?_
              refine lv_iload_n hC.1 hC.2.1 d_md_next_78 rfl (lv_at hl 4 rfl) ?_
              refine ld_34 hC hw (by omega) (by omega) d_md_next_79 ?_
              have b_32 := iv_34 hI sh.toNat
              refine lv_aload_n hC.1 hC.2.1 d_md_next_80 rfl (lv_at hl 3 rfl) ?_
              refine gf_md_19 hC hw d_md_next_81 ?_
              refine lv_iload hC.1 hC.2.1 d_md_next_84 (lv_at hl 1 rfl) ?_
              refine ld_29 hC hw (by omega) (by omega) d_md_next_86 ?_
              have b_33 := iv_29 hI x4.toNat
              refine ir_gt (tgt := 127) hC.1 hC.2.1 d_md_next_87 (by decide) ⟨by omega, by omega⟩ ⟨by omega, by omega⟩ (fun c_34 => ?_) (fun c_34 => ?_)
              · skip
                refine lv_iconst (v := iI 0) hC.1 hC.2.1 d_md_next_127 rfl ?_
                refine lv_istore (lv' := [(6, .int (iI (0))), (5, .int (iI (S 27 x4.toNat))), (4, .int (iI (x4))), (3, .int (iI (x3))), (0, .ref (G.2.1 25)), (1, .int (iI (sh))), (2, .int (iI (t)))]) hC.1 hC.2.1 d_md_next_128 hl (by decide) rfl (fun ls hl => ?_)
                refine lv_iload hC.1 hC.2.1 d_md_next_130 (lv_at hl 0 rfl) ?_
                refine ir_if_eq (tgt := 140) hC.1 hC.2.1 d_md_next_132 (by decide) (by decide) (fun c_35 => ?_) (fun c_35 => ?_)
                · skip
                  refine lv_iload_n hC.1 hC.2.1 d_md_next_140 rfl (lv_at hl 3 rfl) ?_
                  refine lv_istore_n (lv' := [(3, .int (iI (x3))), (6, .int (iI (0))), (5, .int (iI (S 27 x4.toNat))), (4, .int (iI (x4))), (0, .ref (G.2.1 25)), (1, .int (iI (sh))), (2, .int (iI (t)))]) hC.1 hC.2.1 d_md_next_141 rfl hl (by decide) rfl (fun ls hl => ?_)
                  refine lv_iinc (v := iI (x4 + (-1))) (lv' := [(4, .int (iI (x4 + (-1)))), (3, .int (iI (x3))), (6, .int (iI (0))), (5, .int (iI (S 27 x4.toNat))), (0, .ref (G.2.1 25)), (1, .int (iI (sh))), (2, .int (iI (t)))]) hC.1 hC.2.1 d_md_next_142 hl (k := 3) rfl (iI_add _ _) (by decide) rfl (fun ls hl => ?_)
                  refine lv_goto (tgt := 10) hC.1 hC.2.1 d_md_next_145 (by decide) ?_
                  exact ih_10 (k - 1) _ _ (by omega) (by have g := mNf_s S sh t k (S 25 1).toNat x4 hx4 (by omega) (by omega); rw [g]; unfold mOe; first | (simp [c_2, c_4, c_6, c_30, c_34]; done) | (simp [c_2, c_4, c_6, c_30, c_34]; omega) | (rw [if_neg (by simp [c_2, c_4, c_6, c_30, c_34]; omega)]; omega) | (rw [if_pos (by simp [c_2, c_4, c_6, c_30, c_34]; omega)]) | omega) (by first | rfl | omega) (by omega) (by omega) _ (lv_sub hl [0, 1, 4, 5, 6] rfl)
                · exact absurd c_35 (by decide)
              · skip
                refine lv_aload_n hC.1 hC.2.1 d_md_next_90 rfl (lv_at hl 3 rfl) ?_
                refine gf_md_62 hC hw d_md_next_91 ?_
                refine lv_iload_n hC.1 hC.2.1 d_md_next_94 rfl (lv_at hl 5 rfl) ?_
                refine ld_43 hC hw (by omega) (by omega) d_md_next_95 ?_
                have b_36 := iv_43 hI t.toNat
                refine lv_aload_n hC.1 hC.2.1 d_md_next_96 rfl (lv_at hl 3 rfl) ?_
                refine lv_iload_n hC.1 hC.2.1 d_md_next_97 rfl (lv_at hl 4 rfl) ?_
                refine lv_iload hC.1 hC.2.1 d_md_next_98 (lv_at hl 1 rfl) ?_
                refine go_R (ca_V (As := [.int (iI (sh)), .int (iI (x4))]) (rest := [.int (iI (S 43 t.toNat))]) hC hw (c_md_takes l G S sh x4 hI (by omega) (by omega) (by omega)) (cv_md_102 hC rfl rfl (Nat.le_of_ble_eq_true rfl) (Nat.le_of_ble_eq_true rfl)) (by decide) rfl rfl rfl hl.1 rfl (Nat.le_of_ble_eq_true rfl) d_md_next_100 ⟨Nat.le_of_ble_eq_true rfl, Nat.le_of_ble_eq_true rfl⟩) ?_
                have r_37 := mTk_b hI (show 1 ≤ S 35 sh.toNat by omega) x4
                refine lv_aload_n hC.1 hC.2.1 d_md_next_103 rfl (lv_at hl 3 rfl) ?_
                refine gf_md_62 hC hw d_md_next_104 ?_
                refine lv_iload hC.1 hC.2.1 d_md_next_107 (lv_at hl 0 rfl) ?_
                refine ir_if_lt (tgt := 117) hC.1 hC.2.1 d_md_next_109 (by decide) ⟨by omega, by omega⟩ (fun c_38 => ?_) (fun c_38 => ?_)
                · skip
                  refine lv_iconst (v := iI 0) hC.1 hC.2.1 d_md_next_117 rfl ?_
                  refine lc_43 0 hC hw (by decide) d_md_next_118 ?_
                  have b_39 := iv_43 hI 0
                  refine ir_add hC.1 hC.2.1 d_md_next_119 ?_
                  refine ir_ne (tgt := 127) hC.1 hC.2.1 d_md_next_120 (by decide) ⟨by omega, by omega⟩ ⟨by omega, by omega⟩ (fun c_40 => ?_) (fun c_40 => ?_)
                  · skip
                    refine lv_iconst (v := iI 0) hC.1 hC.2.1 d_md_next_127 rfl ?_
                    refine lv_istore (lv' := [(6, .int (iI (0))), (5, .int (iI (S 27 x4.toNat))), (4, .int (iI (x4))), (3, .int (iI (x3))), (0, .ref (G.2.1 25)), (1, .int (iI (sh))), (2, .int (iI (t)))]) hC.1 hC.2.1 d_md_next_128 hl (by decide) rfl (fun ls hl => ?_)
                    refine lv_iload hC.1 hC.2.1 d_md_next_130 (lv_at hl 0 rfl) ?_
                    refine ir_if_eq (tgt := 140) hC.1 hC.2.1 d_md_next_132 (by decide) (by decide) (fun c_41 => ?_) (fun c_41 => ?_)
                    · skip
                      refine lv_iload_n hC.1 hC.2.1 d_md_next_140 rfl (lv_at hl 3 rfl) ?_
                      refine lv_istore_n (lv' := [(3, .int (iI (x3))), (6, .int (iI (0))), (5, .int (iI (S 27 x4.toNat))), (4, .int (iI (x4))), (0, .ref (G.2.1 25)), (1, .int (iI (sh))), (2, .int (iI (t)))]) hC.1 hC.2.1 d_md_next_141 rfl hl (by decide) rfl (fun ls hl => ?_)
                      refine lv_iinc (v := iI (x4 + (-1))) (lv' := [(4, .int (iI (x4 + (-1)))), (3, .int (iI (x3))), (6, .int (iI (0))), (5, .int (iI (S 27 x4.toNat))), (0, .ref (G.2.1 25)), (1, .int (iI (sh))), (2, .int (iI (t)))]) hC.1 hC.2.1 d_md_next_142 hl (k := 3) rfl (iI_add _ _) (by decide) rfl (fun ls hl => ?_)
                      refine lv_goto (tgt := 10) hC.1 hC.2.1 d_md_next_145 (by decide) ?_
                      exact ih_10 (k - 1) _ _ (by omega) (by have g := mNf_s S sh t k (S 25 1).toNat x4 hx4 (by omega) (by omega); rw [g]; unfold mOe; first | (simp [c_2, c_4, c_6, c_30, c_34, c_38, c_40]; done) | (simp [c_2, c_4, c_6, c_30, c_34, c_38, c_40]; omega) | (rw [if_neg (by simp [c_2, c_4, c_6, c_30, c_34, c_38, c_40]; omega)]; omega) | (rw [if_pos (by simp [c_2, c_4, c_6, c_30, c_34, c_38, c_40]; omega)]) | omega) (by first | rfl | omega) (by omega) (by omega) _ (lv_sub hl [0, 1, 4, 5, 6] rfl)
                    · exact absurd c_41 (by decide)
                  · skip
                    refine lv_iconst (v := iI 1) hC.1 hC.2.1 d_md_next_123 rfl ?_
                    refine lv_goto (tgt := 128) hC.1 hC.2.1 d_md_next_124 (by decide) ?_
                    refine lv_istore (lv' := [(6, .int (iI (1))), (5, .int (iI (S 27 x4.toNat))), (4, .int (iI (x4))), (3, .int (iI (x3))), (0, .ref (G.2.1 25)), (1, .int (iI (sh))), (2, .int (iI (t)))]) hC.1 hC.2.1 d_md_next_128 hl (by decide) rfl (fun ls hl => ?_)
                    refine lv_iload hC.1 hC.2.1 d_md_next_130 (lv_at hl 0 rfl) ?_
                    refine ir_if_eq (tgt := 140) hC.1 hC.2.1 d_md_next_132 (by decide) (by decide) (fun c_42 => ?_) (fun c_42 => ?_)
                    · exact absurd c_42 (by decide)
                    · skip
                      refine lv_iload hC.1 hC.2.1 d_md_next_135 (lv_at hl 2 rfl) ?_
                      refine lv_goto (tgt := 141) hC.1 hC.2.1 d_md_next_137 (by decide) ?_
                      refine lv_istore_n (lv' := [(3, .int (iI (x4))), (6, .int (iI (1))), (5, .int (iI (S 27 x4.toNat))), (4, .int (iI (x4))), (0, .ref (G.2.1 25)), (1, .int (iI (sh))), (2, .int (iI (t)))]) hC.1 hC.2.1 d_md_next_141 rfl hl (by decide) rfl (fun ls hl => ?_)
                      refine lv_iinc (v := iI (x4 + (-1))) (lv' := [(4, .int (iI (x4 + (-1)))), (3, .int (iI (x4))), (6, .int (iI (1))), (5, .int (iI (S 27 x4.toNat))), (0, .ref (G.2.1 25)), (1, .int (iI (sh))), (2, .int (iI (t)))]) hC.1 hC.2.1 d_md_next_142 hl (k := 3) rfl (iI_add _ _) (by decide) rfl (fun ls hl => ?_)
                      refine lv_goto (tgt := 10) hC.1 hC.2.1 d_md_next_145 (by decide) ?_
                      exact ih_10 (k - 1) _ _ (by omega) (by have g := mNf_s S sh t k (S 25 1).toNat x4 hx4 (by omega) (by omega); rw [g]; unfold mOe; first | (simp [c_2, c_4, c_6, c_30, c_34, c_38, c_40]; done) | (simp [c_2, c_4, c_6, c_30, c_34, c_38, c_40]; omega) | (rw [if_neg (by simp [c_2, c_4, c_6, c_30, c_34, c_38, c_40]; omega)]; omega) | (rw [if_pos (by simp [c_2, c_4, c_6, c_30, c_34, c_38, c_40]; omega)]) | omega) (by first | rfl | omega) (by omega) (by omega) _ (lv_sub hl [0, 1, 4, 5, 6] rfl)
                · skip
                  refine lv_iload hC.1 hC.2.1 d_md_next_112 (lv_at hl 0 rfl) ?_
                  refine lv_goto (tgt := 118) hC.1 hC.2.1 d_md_next_114 (by decide) ?_
                  refine ld_43 hC hw (by omega) (by omega) d_md_next_118 ?_
                  have b_43 := iv_43 hI ((S 27 x4.toNat).toNat)
                  refine ir_add hC.1 hC.2.1 d_md_next_119 ?_
                  refine ir_ne (tgt := 127) hC.1 hC.2.1 d_md_next_120 (by decide) ⟨by omega, by omega⟩ ⟨by omega, by omega⟩ (fun c_44 => ?_) (fun c_44 => ?_)
                  · skip
                    refine lv_iconst (v := iI 0) hC.1 hC.2.1 d_md_next_127 rfl ?_
                    refine lv_istore (lv' := [(6, .int (iI (0))), (5, .int (iI (S 27 x4.toNat))), (4, .int (iI (x4))), (3, .int (iI (x3))), (0, .ref (G.2.1 25)), (1, .int (iI (sh))), (2, .int (iI (t)))]) hC.1 hC.2.1 d_md_next_128 hl (by decide) rfl (fun ls hl => ?_)
                    refine lv_iload hC.1 hC.2.1 d_md_next_130 (lv_at hl 0 rfl) ?_
                    refine ir_if_eq (tgt := 140) hC.1 hC.2.1 d_md_next_132 (by decide) (by decide) (fun c_45 => ?_) (fun c_45 => ?_)
                    · skip
                      refine lv_iload_n hC.1 hC.2.1 d_md_next_140 rfl (lv_at hl 3 rfl) ?_
                      refine lv_istore_n (lv' := [(3, .int (iI (x3))), (6, .int (iI (0))), (5, .int (iI (S 27 x4.toNat))), (4, .int (iI (x4))), (0, .ref (G.2.1 25)), (1, .int (iI (sh))), (2, .int (iI (t)))]) hC.1 hC.2.1 d_md_next_141 rfl hl (by decide) rfl (fun ls hl => ?_)
                      refine lv_iinc (v := iI (x4 + (-1))) (lv' := [(4, .int (iI (x4 + (-1)))), (3, .int (iI (x3))), (6, .int (iI (0))), (5, .int (iI (S 27 x4.toNat))), (0, .ref (G.2.1 25)), (1, .int (iI (sh))), (2, .int (iI (t)))]) hC.1 hC.2.1 d_md_next_142 hl (k := 3) rfl (iI_add _ _) (by decide) rfl (fun ls hl => ?_)
                      refine lv_goto (tgt := 10) hC.1 hC.2.1 d_md_next_145 (by decide) ?_
                      exact ih_10 (k - 1) _ _ (by omega) (by have g := mNf_s S sh t k (S 25 1).toNat x4 hx4 (by omega) (by omega); rw [g]; unfold mOe; first | (simp [c_2, c_4, c_6, c_30, c_34, c_38, c_44]; done) | (simp [c_2, c_4, c_6, c_30, c_34, c_38, c_44]; omega) | (rw [if_neg (by simp [c_2, c_4, c_6, c_30, c_34, c_38, c_44]; omega)]; omega) | (rw [if_pos (by simp [c_2, c_4, c_6, c_30, c_34, c_38, c_44]; omega)]) | omega) (by first | rfl | omega) (by omega) (by omega) _ (lv_sub hl [0, 1, 4, 5, 6] rfl)
                    · exact absurd c_45 (by decide)
                  · skip
                    refine lv_iconst (v := iI 1) hC.1 hC.2.1 d_md_next_123 rfl ?_
                    refine lv_goto (tgt := 128) hC.1 hC.2.1 d_md_next_124 (by decide) ?_
                    refine lv_istore (lv' := [(6, .int (iI (1))), (5, .int (iI (S 27 x4.toNat))), (4, .int (iI (x4))), (3, .int (iI (x3))), (0, .ref (G.2.1 25)), (1, .int (iI (sh))), (2, .int (iI (t)))]) hC.1 hC.2.1 d_md_next_128 hl (by decide) rfl (fun ls hl => ?_)
                    refine lv_iload hC.1 hC.2.1 d_md_next_130 (lv_at hl 0 rfl) ?_
                    refine ir_if_eq (tgt := 140) hC.1 hC.2.1 d_md_next_132 (by decide) (by decide) (fun c_46 => ?_) (fun c_46 => ?_)
                    · exact absurd c_46 (by decide)
                    · skip
                      refine lv_iload hC.1 hC.2.1 d_md_next_135 (lv_at hl 2 rfl) ?_
                      refine lv_goto (tgt := 141) hC.1 hC.2.1 d_md_next_137 (by decide) ?_
                      refine lv_istore_n (lv' := [(3, .int (iI (x4))), (6, .int (iI (1))), (5, .int (iI (S 27 x4.toNat))), (4, .int (iI (x4))), (0, .ref (G.2.1 25)), (1, .int (iI (sh))), (2, .int (iI (t)))]) hC.1 hC.2.1 d_md_next_141 rfl hl (by decide) rfl (fun ls hl => ?_)
                      refine lv_iinc (v := iI (x4 + (-1))) (lv' := [(4, .int (iI (x4 + (-1)))), (3, .int (iI (x4))), (6, .int (iI (1))), (5, .int (iI (S 27 x4.toNat))), (0, .ref (G.2.1 25)), (1, .int (iI (sh))), (2, .int (iI (t)))]) hC.1 hC.2.1 d_md_next_142 hl (k := 3) rfl (iI_add _ _) (by decide) rfl (fun ls hl => ?_)
                      refine lv_goto (tgt := 10) hC.1 hC.2.1 d_md_next_145 (by decide) ?_
                      exact ih_10 (k - 1) _ _ (by omega) (by have g := mNf_s S sh t k (S 25 1).toNat x4 hx4 (by omega) (by omega); rw [g]; unfold mOe; first | (simp [c_2, c_4, c_6, c_30, c_34, c_38, c_44]; done) | (simp [c_2, c_4, c_6, c_30, c_34, c_38, c_44]; omega) | (rw [if_neg (by simp [c_2, c_4, c_6, c_30, c_34, c_38, c_44]; omega)]; omega) | (rw [if_pos (by simp [c_2, c_4, c_6, c_30, c_34, c_38, c_44]; omega)]) | omega) (by first | rfl | omega) (by omega) (by omega) _ (lv_sub hl [0, 1, 4, 5, 6] rfl)
  exact loop_10 _ (S 25 1).toNat _ _ (Nat.lt_succ_self _) (by rw [Nat.sub_self]; rfl) (by first | rfl | omega) (by omega) (by omega) _ (lv_sub hl [0, 1, 2, 3, 4] rfl)
set_option maxHeartbeats 4000000 in
set_option maxRecDepth 100000 in
theorem c_md_conflicts (l : Launch) (G : Gt) (S : St) (i : Int) (w : Int) (hI : Inv S) (hi : 0 ≤ i ∧ i ≤ 2147483647) (hw1 : i32 w) (hso : ∀ j : Nat, 0 < S 40 j → 1 ≤ S 35 (S 37 j).toNat) : Met l y_md_conflicts [.code y_md_conflicts b_md_conflicts 8 (some .int)] { frames := 5, cells := 0, slots := 0, locals := 124 } (va_Pc [.ref (G.2.1 25), .int (iI (i)), .int (iI (w))] (fun U => wu G S U)) (qR (mCf S i w)) 0 0 (fun _ => False) := by
  refine mt_of (by decide +kernel) (Nat.le_of_ble_eq_true rfl) ?_
  intro p e s m below meth c ls hadm hC hr hlk hex hw hl
  have hC : CallFix p m c b_md_conflicts 8 s _ tws "ChannelRulesModel" := hC
  have hl : lv_has ls 8 [(0, .ref (G.2.1 25)), (1, .int (iI (i))), (2, .int (iI (w)))] := hl
  have i16 := iv_25k hI
  refine lv_iload_n hC.1 hC.2.1 d_md_conflicts_0 rfl (lv_at hl 1 rfl) ?_
  refine lv_istore_n (lv' := [(3, .int (iI (i))), (0, .ref (G.2.1 25)), (1, .int (iI (i))), (2, .int (iI (w)))]) hC.1 hC.2.1 d_md_conflicts_1 rfl hl (by decide) rfl (fun ls hl => ?_)
  refine lv_iconst (v := iI 1) hC.1 hC.2.1 d_md_conflicts_2 rfl ?_
  refine lv_istore (lv' := [(4, .int (iI (1))), (3, .int (iI (i))), (0, .ref (G.2.1 25)), (1, .int (iI (i))), (2, .int (iI (w)))]) hC.1 hC.2.1 d_md_conflicts_3 hl (by decide) rfl (fun ls hl => ?_)
  have loop_5 : ∀ (nn : Nat) (kk : Nat) (x3 : Int) (x4 : Int), (S 25 16).toNat - kk < nn → x4 = (kk : Int) + 1 → (kk : Int) ≤ S 25 16 → 0 ≤ x3 ∧ x3 ≤ i → mCf S i w = mFn i w (mCk S w (kk + 1) ((S 25 16).toNat - kk) x3) → ∀ (ls : Array Slot), lv_has ls 8 [(4, .int (iI (x4))), (3, .int (iI (x3))), (0, .ref (G.2.1 25)), (1, .int (iI (i))), (2, .int (iI (w)))] → W p l e { frames := 5, cells := 0, slots := 0, locals := 124 } s m ([.ref (G.2.1 25), .int (iI (i)), .int (iI (w))] : List Value).toArray below meth c s.heap [] 0 0 (MQ below (qR (mCf S i w)) ([.ref (G.2.1 25), .int (iI (i)), .int (iI (w))] : List Value).toArray s 0 0 (fun _ => False)) (F0 m 5 ls []) := by
    intro nn
    induction nn with
    | zero => intros; omega
    | succ nn ih_5 =>
      intro kk x3 x4 hms_5 hx4 hv0 hv1 hv2 ls hl
      have hvO := hv2
      refine lv_iload hC.1 hC.2.1 d_md_conflicts_5 (lv_at hl 0 rfl) ?_
      refine lv_aload_n hC.1 hC.2.1 d_md_conflicts_7 rfl (lv_at hl 2 rfl) ?_
      refine gf_md_75 hC hw d_md_conflicts_8 ?_
      have b_1 := iv_25k hI
      refine ir_gt (tgt := 159) hC.1 hC.2.1 d_md_conflicts_11 (by decide) ⟨by omega, by omega⟩ ⟨by omega, by omega⟩ (fun c_2 => ?_) (fun c_2 => ?_)
      · skip
        refine lv_iload_n hC.1 hC.2.1 d_md_conflicts_159 rfl (lv_at hl 4 rfl) ?_
        refine ir_if_ge (tgt := 169) hC.1 hC.2.1 d_md_conflicts_160 (by decide) ⟨by omega, by omega⟩ (fun c_3 => ?_) (fun c_3 => ?_)
        · skip
          refine lv_iconst (v := iI (-1)) hC.1 hC.2.1 d_md_conflicts_169 rfl ?_
          exact rt_R hC hr hlk (by rw [hvO, show (S 25 16).toNat - kk = 0 by omega]; show _ = if w < 0 then i - x3 else -1; first | (rw [if_pos (by omega)]; done) | (rw [if_neg (by omega)]; done)) d_md_conflicts_170
        · skip
          refine lv_iload_n hC.1 hC.2.1 d_md_conflicts_163 rfl (lv_at hl 3 rfl) ?_
          refine lv_iload_n hC.1 hC.2.1 d_md_conflicts_164 rfl (lv_at hl 1 rfl) ?_
          refine ir_sub hC.1 hC.2.1 d_md_conflicts_165 ?_
          refine lv_goto (tgt := 170) hC.1 hC.2.1 d_md_conflicts_166 (by decide) ?_
          exact rt_R hC hr hlk (by rw [hvO, show (S 25 16).toNat - kk = 0 by omega]; show _ = if w < 0 then i - x3 else -1; first | (rw [if_pos (by omega)]; done) | (rw [if_neg (by omega)]; done)) d_md_conflicts_170
      · skip
        refine lv_iload hC.1 hC.2.1 d_md_conflicts_14 (lv_at hl 0 rfl) ?_
        refine lv_iconst (v := iI 1) hC.1 hC.2.1 d_md_conflicts_16 rfl ?_
        refine ir_add hC.1 hC.2.1 d_md_conflicts_17 ?_
        refine lv_istore (lv' := [(5, .int (iI (x4 + 1))), (4, .int (iI (x4))), (3, .int (iI (x3))), (0, .ref (G.2.1 25)), (1, .int (iI (i))), (2, .int (iI (w)))]) hC.1 hC.2.1 d_md_conflicts_18 hl (by decide) rfl (fun ls hl => ?_)
        have loop_20 : ∀ (nn : Nat) (g : Nat) (x3 : Int) (x5 : Int), (S 25 16).toNat - (kk + 1) - g < nn → x5 = (kk : Int) + 1 + (g : Int) + 1 → (kk : Int) + 1 + (g : Int) ≤ S 25 16 → 0 ≤ x3 ∧ x3 ≤ i → mCf S i w = mFn i w (mOb (mCr S w x4 (kk + 1 + g + 1) ((S 25 16).toNat - (kk + 1) - g) x3) (fun L => mCk S w (kk + 1 + 1) ((S 25 16).toNat - (kk + 1)) L)) → ∀ (ls : Array Slot), lv_has ls 8 [(5, .int (iI (x5))), (4, .int (iI (x4))), (3, .int (iI (x3))), (0, .ref (G.2.1 25)), (1, .int (iI (i))), (2, .int (iI (w)))] → W p l e { frames := 5, cells := 0, slots := 0, locals := 124 } s m ([.ref (G.2.1 25), .int (iI (i)), .int (iI (w))] : List Value).toArray below meth c s.heap [] 0 0 (MQ below (qR (mCf S i w)) ([.ref (G.2.1 25), .int (iI (i)), .int (iI (w))] : List Value).toArray s 0 0 (fun _ => False)) (F0 m 20 ls []) := by
          intro nn
          induction nn with
          | zero => intros; omega
          | succ nn ih_20 =>
            intro g x3 x5 hms_20 hx5 hv0 hv1 hv2 ls hl
            have hvM := hv2
            refine lv_iload hC.1 hC.2.1 d_md_conflicts_20 (lv_at hl 0 rfl) ?_
            refine lv_aload_n hC.1 hC.2.1 d_md_conflicts_22 rfl (lv_at hl 3 rfl) ?_
            refine gf_md_75 hC hw d_md_conflicts_23 ?_
            have b_4 := iv_25k hI
            refine ir_gt (tgt := 153) hC.1 hC.2.1 d_md_conflicts_26 (by decide) ⟨by omega, by omega⟩ ⟨by omega, by omega⟩ (fun c_5 => ?_) (fun c_5 => ?_)
            · skip
              refine lv_iinc (v := iI (x4 + 1)) (lv' := [(4, .int (iI (x4 + 1))), (5, .int (iI (x5))), (3, .int (iI (x3))), (0, .ref (G.2.1 25)), (1, .int (iI (i))), (2, .int (iI (w)))]) hC.1 hC.2.1 d_md_conflicts_153 hl (k := 1) rfl (iI_add _ _) (by decide) rfl (fun ls hl => ?_)
              refine lv_goto (tgt := 5) hC.1 hC.2.1 d_md_conflicts_156 (by decide) ?_
              exact ih_5 (kk + 1) _ _ (by omega) (by first | rfl | omega) (by omega) (by omega) (by rw [hvM, show (S 25 16).toNat - (kk + 1) - g = 0 by omega]; rfl) _ (lv_sub hl [0, 2, 3, 4, 5] rfl)
            · skip
              refine lv_iconst (v := iI 0) hC.1 hC.2.1 d_md_conflicts_29 rfl ?_
              refine lv_istore (lv' := [(6, .int (iI (0))), (5, .int (iI (x5))), (4, .int (iI (x4))), (3, .int (iI (x3))), (0, .ref (G.2.1 25)), (1, .int (iI (i))), (2, .int (iI (w)))]) hC.1 hC.2.1 d_md_conflicts_30 hl (by decide) rfl (fun ls hl => ?_)
              have loop_32 : ∀ (nn : Nat) (j : Nat) (x3 : Int) (x6 : Int), (S 40 x4.toNat).toNat - j < nn → x6 = (j : Int) → (j : Int) ≤ S 40 x4.toNat → 0 ≤ x3 ∧ x3 ≤ i → mCf S i w = mFn i w (mOb (mOb (mCj S w x4 x5 j ((S 40 x4.toNat).toNat - j) x3) (fun L => mCr S w x4 (kk + 1 + g + 1 + 1) ((S 25 16).toNat - (kk + 1) - (g + 1)) L)) (fun L => mCk S w (kk + 1 + 1) ((S 25 16).toNat - (kk + 1)) L)) → ∀ (ls : Array Slot), lv_has ls 8 [(6, .int (iI (x6))), (5, .int (iI (x5))), (4, .int (iI (x4))), (3, .int (iI (x3))), (0, .ref (G.2.1 25)), (1, .int (iI (i))), (2, .int (iI (w)))] → W p l e { frames := 5, cells := 0, slots := 0, locals := 124 } s m ([.ref (G.2.1 25), .int (iI (i)), .int (iI (w))] : List Value).toArray below meth c s.heap [] 0 0 (MQ below (qR (mCf S i w)) ([.ref (G.2.1 25), .int (iI (i)), .int (iI (w))] : List Value).toArray s 0 0 (fun _ => False)) (F0 m 32 ls []) := by
                intro nn
                induction nn with
                | zero => intros; omega
                | succ nn ih_32 =>
                  intro j x3 x6 hms_32 hx6 hv0 hv1 hv2 ls hl
                  have hvN := hv2
                  have i40 := iv_40 hI x4.toNat
                  have hs3 : 0 < S 40 x5.toNat → 1 ≤ S 35 (S 37 x5.toNat).toNat := hso x5.toNat
                  have wb := mWt_b S x4 x6 x5 (S 40 x5.toNat).toNat
                  refine lv_iload hC.1 hC.2.1 d_md_conflicts_32 (lv_at hl 0 rfl) ?_
                  refine lv_aload_n hC.1 hC.2.1 d_md_conflicts_34 rfl (lv_at hl 4 rfl) ?_
                  refine gf_md_53 hC hw d_md_conflicts_35 ?_
                  refine lv_iload hC.1 hC.2.1 d_md_conflicts_38 (lv_at hl 2 rfl) ?_
                  refine ld_40 hC hw (by omega) (by omega) d_md_conflicts_40 ?_
                  have b_6 := iv_40 hI x4.toNat
                  refine ir_ge (tgt := 147) hC.1 hC.2.1 d_md_conflicts_41 (by decide) ⟨by omega, by omega⟩ ⟨by omega, by omega⟩ (fun c_7 => ?_) (fun c_7 => ?_)
                  · skip
                    refine lv_iinc (v := iI (x5 + 1)) (lv' := [(5, .int (iI (x5 + 1))), (6, .int (iI (x6))), (4, .int (iI (x4))), (3, .int (iI (x3))), (0, .ref (G.2.1 25)), (1, .int (iI (i))), (2, .int (iI (w)))]) hC.1 hC.2.1 d_md_conflicts_147 hl (k := 1) rfl (iI_add _ _) (by decide) rfl (fun ls hl => ?_)
                    refine lv_goto (tgt := 20) hC.1 hC.2.1 d_md_conflicts_150 (by decide) ?_
                    exact ih_20 (g + 1) _ _ (by omega) (by first | rfl | omega) (by omega) (by omega) (by rw [hvN, mCj_e S w x4 x5 j _ x3 (by omega)]; rfl) _ (lv_sub hl [0, 2, 3, 4, 5, 6] rfl)
                  · skip
                    refine lv_aload_n hC.1 hC.2.1 d_md_conflicts_44 rfl (lv_at hl 4 rfl) ?_
                    refine gf_md_49 hC hw d_md_conflicts_45 ?_
                    refine lv_iload hC.1 hC.2.1 d_md_conflicts_48 (lv_at hl 2 rfl) ?_
                    refine ld_39 hC hw (by omega) (by omega) d_md_conflicts_50 ?_
                    have b_8 := iv_39 hI x4.toNat
                    refine ir_if_eq (tgt := 147) hC.1 hC.2.1 d_md_conflicts_51 (by decide) ⟨by omega, by omega⟩ (fun c_9 => ?_) (fun c_9 => ?_)
                    · skip
                      refine lv_iinc (v := iI (x5 + 1)) (lv' := [(5, .int (iI (x5 + 1))), (6, .int (iI (x6))), (4, .int (iI (x4))), (3, .int (iI (x3))), (0, .ref (G.2.1 25)), (1, .int (iI (i))), (2, .int (iI (w)))]) hC.1 hC.2.1 d_md_conflicts_147 hl (k := 1) rfl (iI_add _ _) (by decide) rfl (fun ls hl => ?_)
                      refine lv_goto (tgt := 20) hC.1 hC.2.1 d_md_conflicts_150 (by decide) ?_
                      exact ih_20 (g + 1) _ _ (by omega) (by first | rfl | omega) (by omega) (by omega) (by rw [hvN, mCj_e S w x4 x5 j _ x3 (by omega)]; rfl) _ (lv_sub hl [0, 2, 3, 4, 5, 6] rfl)
                    · skip
                      refine lv_aload_n hC.1 hC.2.1 d_md_conflicts_54 rfl (lv_at hl 4 rfl) ?_
                      refine gf_md_49 hC hw d_md_conflicts_55 ?_
                      refine lv_iload hC.1 hC.2.1 d_md_conflicts_58 (lv_at hl 1 rfl) ?_
                      refine ld_39 hC hw (by omega) (by omega) d_md_conflicts_60 ?_
                      have b_10 := iv_39 hI x5.toNat
                      refine ir_if_eq (tgt := 147) hC.1 hC.2.1 d_md_conflicts_61 (by decide) ⟨by omega, by omega⟩ (fun c_11 => ?_) (fun c_11 => ?_)
                      · skip
                        refine lv_iinc (v := iI (x5 + 1)) (lv' := [(5, .int (iI (x5 + 1))), (6, .int (iI (x6))), (4, .int (iI (x4))), (3, .int (iI (x3))), (0, .ref (G.2.1 25)), (1, .int (iI (i))), (2, .int (iI (w)))]) hC.1 hC.2.1 d_md_conflicts_147 hl (k := 1) rfl (iI_add _ _) (by decide) rfl (fun ls hl => ?_)
                        refine lv_goto (tgt := 20) hC.1 hC.2.1 d_md_conflicts_150 (by decide) ?_
                        exact ih_20 (g + 1) _ _ (by omega) (by first | rfl | omega) (by omega) (by omega) (by rw [hvN, mCj_e S w x4 x5 j _ x3 (by omega)]; rfl) _ (lv_sub hl [0, 2, 3, 4, 5, 6] rfl)
                      · skip
                        refine lv_aload_n hC.1 hC.2.1 d_md_conflicts_64 rfl (lv_at hl 4 rfl) ?_
                        refine lv_iload hC.1 hC.2.1 d_md_conflicts_65 (lv_at hl 2 rfl) ?_
                        refine lv_iload hC.1 hC.2.1 d_md_conflicts_67 (lv_at hl 0 rfl) ?_
                        refine lv_iload hC.1 hC.2.1 d_md_conflicts_69 (lv_at hl 1 rfl) ?_
                        refine go_R (ca_V (As := [.int (iI (x4)), .int (iI (x6)), .int (iI (x5))]) (rest := []) hC hw (c_md_with l G S x4 x6 x5 hI (by omega) (by omega) (by omega) (hso x4.toNat (by omega)) hs3) (cv_md_136 hC rfl rfl (Nat.le_of_ble_eq_true rfl) (Nat.le_of_ble_eq_true rfl)) (by decide) rfl rfl rfl hl.1 rfl (Nat.le_of_ble_eq_true rfl) d_md_conflicts_71 ⟨Nat.le_of_ble_eq_true rfl, Nat.le_of_ble_eq_true rfl⟩) ?_
                        have r_12 := mWt_b S x4 x6 x5 (S 40 x5.toNat).toNat
                        refine lv_istore (lv' := [(7, .int (iI (mWt S x4 x6 x5 (S 40 x5.toNat).toNat))), (6, .int (iI (x6))), (5, .int (iI (x5))), (4, .int (iI (x4))), (3, .int (iI (x3))), (0, .ref (G.2.1 25)), (1, .int (iI (i))), (2, .int (iI (w)))]) hC.1 hC.2.1 d_md_conflicts_74 hl (by decide) rfl (fun ls hl => ?_)
                        refine lv_iload hC.1 hC.2.1 d_md_conflicts_76 (lv_at hl 0 rfl) ?_
                        refine ir_if_le (tgt := 128) hC.1 hC.2.1 d_md_conflicts_78 (by decide) ⟨by omega, by omega⟩ (fun c_13 => ?_) (fun c_13 => ?_)
                        · skip
                          refine lv_iload_n hC.1 hC.2.1 d_md_conflicts_128 rfl (lv_at hl 4 rfl) ?_
                          refine lv_iload hC.1 hC.2.1 d_md_conflicts_129 (lv_at hl 0 rfl) ?_
                          refine ir_if_le (tgt := 138) hC.1 hC.2.1 d_md_conflicts_131 (by decide) ⟨by omega, by omega⟩ (fun c_14 => ?_) (fun c_14 => ?_)
                          · skip
                            refine lv_iconst (v := iI 0) hC.1 hC.2.1 d_md_conflicts_138 rfl ?_
                            refine ir_sub hC.1 hC.2.1 d_md_conflicts_139 ?_
                            refine lv_istore_n (lv' := [(3, .int (iI (x3 - 0))), (7, .int (iI (mWt S x4 x6 x5 (S 40 x5.toNat).toNat))), (6, .int (iI (x6))), (5, .int (iI (x5))), (4, .int (iI (x4))), (0, .ref (G.2.1 25)), (1, .int (iI (i))), (2, .int (iI (w)))]) hC.1 hC.2.1 d_md_conflicts_140 rfl hl (by decide) rfl (fun ls hl => ?_)
                            refine lv_iinc (v := iI (x6 + 1)) (lv' := [(6, .int (iI (x6 + 1))), (3, .int (iI (x3 - 0))), (7, .int (iI (mWt S x4 x6 x5 (S 40 x5.toNat).toNat))), (5, .int (iI (x5))), (4, .int (iI (x4))), (0, .ref (G.2.1 25)), (1, .int (iI (i))), (2, .int (iI (w)))]) hC.1 hC.2.1 d_md_conflicts_141 hl (k := 2) rfl (iI_add _ _) (by decide) rfl (fun ls hl => ?_)
                            refine lv_goto (tgt := 32) hC.1 hC.2.1 d_md_conflicts_144 (by decide) ?_
                            exact ih_32 (j + 1) _ _ (by omega) (by first | rfl | omega) (by omega) (by omega) (by rw [hvN, mCj_s S w x4 x5 j _ x3 (by omega) (by omega) (by omega), ← hx6, if_neg (by omega)]; first | (rw [if_pos (by omega)]; done) | (rw [if_neg (by omega)]; done)) _ (lv_sub hl [0, 3, 4, 1, 5, 6, 7] rfl)
                          · skip
                            refine lv_iconst (v := iI 1) hC.1 hC.2.1 d_md_conflicts_134 rfl ?_
                            refine lv_goto (tgt := 139) hC.1 hC.2.1 d_md_conflicts_135 (by decide) ?_
                            refine ir_sub hC.1 hC.2.1 d_md_conflicts_139 ?_
                            refine lv_istore_n (lv' := [(3, .int (iI (x3 - 1))), (7, .int (iI (mWt S x4 x6 x5 (S 40 x5.toNat).toNat))), (6, .int (iI (x6))), (5, .int (iI (x5))), (4, .int (iI (x4))), (0, .ref (G.2.1 25)), (1, .int (iI (i))), (2, .int (iI (w)))]) hC.1 hC.2.1 d_md_conflicts_140 rfl hl (by decide) rfl (fun ls hl => ?_)
                            refine lv_iinc (v := iI (x6 + 1)) (lv' := [(6, .int (iI (x6 + 1))), (3, .int (iI (x3 - 1))), (7, .int (iI (mWt S x4 x6 x5 (S 40 x5.toNat).toNat))), (5, .int (iI (x5))), (4, .int (iI (x4))), (0, .ref (G.2.1 25)), (1, .int (iI (i))), (2, .int (iI (w)))]) hC.1 hC.2.1 d_md_conflicts_141 hl (k := 2) rfl (iI_add _ _) (by decide) rfl (fun ls hl => ?_)
                            refine lv_goto (tgt := 32) hC.1 hC.2.1 d_md_conflicts_144 (by decide) ?_
                            exact ih_32 (j + 1) _ _ (by omega) (by first | rfl | omega) (by omega) (by omega) (by rw [hvN, mCj_s S w x4 x5 j _ x3 (by omega) (by omega) (by omega), ← hx6, if_neg (by omega)]; first | (rw [if_pos (by omega)]; done) | (rw [if_neg (by omega)]; done)) _ (lv_sub hl [0, 3, 4, 1, 5, 6, 7] rfl)
                        · skip
                          refine lv_iload_n hC.1 hC.2.1 d_md_conflicts_81 rfl (lv_at hl 4 rfl) ?_
                          refine ir_if_ne (tgt := 128) hC.1 hC.2.1 d_md_conflicts_82 (by decide) ⟨by omega, by omega⟩ (fun c_15 => ?_) (fun c_15 => ?_)
                          · skip
                            refine lv_iload_n hC.1 hC.2.1 d_md_conflicts_128 rfl (lv_at hl 4 rfl) ?_
                            refine lv_iload hC.1 hC.2.1 d_md_conflicts_129 (lv_at hl 0 rfl) ?_
                            refine ir_if_le (tgt := 138) hC.1 hC.2.1 d_md_conflicts_131 (by decide) ⟨by omega, by omega⟩ (fun c_16 => ?_) (fun c_16 => ?_)
                            · skip
                              refine lv_iconst (v := iI 0) hC.1 hC.2.1 d_md_conflicts_138 rfl ?_
                              refine ir_sub hC.1 hC.2.1 d_md_conflicts_139 ?_
                              refine lv_istore_n (lv' := [(3, .int (iI (x3 - 0))), (7, .int (iI (mWt S x4 x6 x5 (S 40 x5.toNat).toNat))), (6, .int (iI (x6))), (5, .int (iI (x5))), (4, .int (iI (x4))), (0, .ref (G.2.1 25)), (1, .int (iI (i))), (2, .int (iI (w)))]) hC.1 hC.2.1 d_md_conflicts_140 rfl hl (by decide) rfl (fun ls hl => ?_)
                              refine lv_iinc (v := iI (x6 + 1)) (lv' := [(6, .int (iI (x6 + 1))), (3, .int (iI (x3 - 0))), (7, .int (iI (mWt S x4 x6 x5 (S 40 x5.toNat).toNat))), (5, .int (iI (x5))), (4, .int (iI (x4))), (0, .ref (G.2.1 25)), (1, .int (iI (i))), (2, .int (iI (w)))]) hC.1 hC.2.1 d_md_conflicts_141 hl (k := 2) rfl (iI_add _ _) (by decide) rfl (fun ls hl => ?_)
                              refine lv_goto (tgt := 32) hC.1 hC.2.1 d_md_conflicts_144 (by decide) ?_
                              exact ih_32 (j + 1) _ _ (by omega) (by first | rfl | omega) (by omega) (by omega) (by rw [hvN, mCj_s S w x4 x5 j _ x3 (by omega) (by omega) (by omega), ← hx6, if_neg (by omega)]; first | (rw [if_pos (by omega)]; done) | (rw [if_neg (by omega)]; done)) _ (lv_sub hl [0, 3, 4, 1, 5, 6, 7] rfl)
                            · skip
                              refine lv_iconst (v := iI 1) hC.1 hC.2.1 d_md_conflicts_134 rfl ?_
                              refine lv_goto (tgt := 139) hC.1 hC.2.1 d_md_conflicts_135 (by decide) ?_
                              refine ir_sub hC.1 hC.2.1 d_md_conflicts_139 ?_
                              refine lv_istore_n (lv' := [(3, .int (iI (x3 - 1))), (7, .int (iI (mWt S x4 x6 x5 (S 40 x5.toNat).toNat))), (6, .int (iI (x6))), (5, .int (iI (x5))), (4, .int (iI (x4))), (0, .ref (G.2.1 25)), (1, .int (iI (i))), (2, .int (iI (w)))]) hC.1 hC.2.1 d_md_conflicts_140 rfl hl (by decide) rfl (fun ls hl => ?_)
                              refine lv_iinc (v := iI (x6 + 1)) (lv' := [(6, .int (iI (x6 + 1))), (3, .int (iI (x3 - 1))), (7, .int (iI (mWt S x4 x6 x5 (S 40 x5.toNat).toNat))), (5, .int (iI (x5))), (4, .int (iI (x4))), (0, .ref (G.2.1 25)), (1, .int (iI (i))), (2, .int (iI (w)))]) hC.1 hC.2.1 d_md_conflicts_141 hl (k := 2) rfl (iI_add _ _) (by decide) rfl (fun ls hl => ?_)
                              refine lv_goto (tgt := 32) hC.1 hC.2.1 d_md_conflicts_144 (by decide) ?_
                              exact ih_32 (j + 1) _ _ (by omega) (by first | rfl | omega) (by omega) (by omega) (by rw [hvN, mCj_s S w x4 x5 j _ x3 (by omega) (by omega) (by omega), ← hx6, if_neg (by omega)]; first | (rw [if_pos (by omega)]; done) | (rw [if_neg (by omega)]; done)) _ (lv_sub hl [0, 3, 4, 1, 5, 6, 7] rfl)
                          · skip
                            refine lv_iload_n hC.1 hC.2.1 d_md_conflicts_85 rfl (lv_at hl 7 rfl) ?_
                            refine ir_if_ne (tgt := 94) hC.1 hC.2.1 d_md_conflicts_86 (by decide) ⟨by omega, by omega⟩ (fun c_17 => ?_) (fun c_17 => ?_)
                            · skip
                              refine lv_iload_n hC.1 hC.2.1 d_md_conflicts_94 rfl (lv_at hl 7 rfl) ?_
                              refine lv_iconst (v := iI 1) hC.1 hC.2.1 d_md_conflicts_95 rfl ?_
                              refine ir_ne (tgt := 104) hC.1 hC.2.1 d_md_conflicts_96 (by decide) ⟨by omega, by omega⟩ (by decide) (fun c_18 => ?_) (fun c_18 => ?_)
                              · skip
                                refine lv_iload_n hC.1 hC.2.1 d_md_conflicts_104 rfl (lv_at hl 7 rfl) ?_
                                refine lv_iconst (v := iI 2) hC.1 hC.2.1 d_md_conflicts_105 rfl ?_
                                refine ir_ne (tgt := 125) hC.1 hC.2.1 d_md_conflicts_106 (by decide) ⟨by omega, by omega⟩ (by decide) (fun c_19 => ?_) (fun c_19 => ?_)
                                · skip
                                  refine lv_iload hC.1 hC.2.1 d_md_conflicts_125 (lv_at hl 0 rfl) ?_
                                  exact rt_R hC hr hlk (by rw [hvN, mCj_s S w x4 x5 j _ x3 (by omega) (by omega) (by omega), ← hx6, if_pos (by omega)]; show _ = mAn S w x4 x5 x6; unfold mAn; first | (rw [if_pos (by omega)]; done) | (rw [if_neg (by omega), if_pos (by omega)]; done) | (rw [if_neg (by omega), if_neg (by omega), if_pos (by omega)]; done) | (rw [if_neg (by omega), if_neg (by omega), if_neg (by omega)]; done)) d_md_conflicts_127
                                · skip
                                  refine lv_aload_n hC.1 hC.2.1 d_md_conflicts_109 rfl (lv_at hl 5 rfl) ?_
                                  refine gf_md_56 hC hw d_md_conflicts_110 ?_
                                  refine lv_bipush (v := iI 8) hC.1 hC.2.1 d_md_conflicts_113 (by decide +kernel) ?_
                                  refine lv_iload hC.1 hC.2.1 d_md_conflicts_115 (lv_at hl 3 rfl) ?_
                                  refine ir_mul hC.1 hC.2.1 d_md_conflicts_117 ?_
                                  refine lv_iload hC.1 hC.2.1 d_md_conflicts_118 (lv_at hl 1 rfl) ?_
                                  refine ir_add hC.1 hC.2.1 d_md_conflicts_120 ?_
                                  refine ld_41 hC hw (by omega) (by omega) d_md_conflicts_121 ?_
                                  have b_20 := iv_41 hI (((8 * x4) + x6).toNat)
                                  refine lv_goto (tgt := 127) hC.1 hC.2.1 d_md_conflicts_122 (by decide) ?_
                                  exact rt_R hC hr hlk (by rw [hvN, mCj_s S w x4 x5 j _ x3 (by omega) (by omega) (by omega), ← hx6, if_pos (by omega)]; show _ = mAn S w x4 x5 x6; unfold mAn; first | (rw [if_pos (by omega)]; done) | (rw [if_neg (by omega), if_pos (by omega)]; done) | (rw [if_neg (by omega), if_neg (by omega), if_pos (by omega)]; done) | (rw [if_neg (by omega), if_neg (by omega), if_neg (by omega)]; done)) d_md_conflicts_127
                              · skip
                                refine lv_iload hC.1 hC.2.1 d_md_conflicts_99 (lv_at hl 2 rfl) ?_
                                refine lv_goto (tgt := 127) hC.1 hC.2.1 d_md_conflicts_101 (by decide) ?_
                                exact rt_R hC hr hlk (by rw [hvN, mCj_s S w x4 x5 j _ x3 (by omega) (by omega) (by omega), ← hx6, if_pos (by omega)]; show _ = mAn S w x4 x5 x6; unfold mAn; first | (rw [if_pos (by omega)]; done) | (rw [if_neg (by omega), if_pos (by omega)]; done) | (rw [if_neg (by omega), if_neg (by omega), if_pos (by omega)]; done) | (rw [if_neg (by omega), if_neg (by omega), if_neg (by omega)]; done)) d_md_conflicts_127
                            · skip
                              refine lv_iload hC.1 hC.2.1 d_md_conflicts_89 (lv_at hl 3 rfl) ?_
                              refine lv_goto (tgt := 127) hC.1 hC.2.1 d_md_conflicts_91 (by decide) ?_
                              exact rt_R hC hr hlk (by rw [hvN, mCj_s S w x4 x5 j _ x3 (by omega) (by omega) (by omega), ← hx6, if_pos (by omega)]; show _ = mAn S w x4 x5 x6; unfold mAn; first | (rw [if_pos (by omega)]; done) | (rw [if_neg (by omega), if_pos (by omega)]; done) | (rw [if_neg (by omega), if_neg (by omega), if_pos (by omega)]; done) | (rw [if_neg (by omega), if_neg (by omega), if_neg (by omega)]; done)) d_md_conflicts_127
              exact loop_32 _ 0 _ _ (Nat.lt_succ_self _) (by first | rfl | omega) (by have := iv_40 hI x4.toNat; omega) (by omega) (by rw [hvM, mCr_s S w x4 (kk + 1) g _ _ (by omega), show (((kk + 1 + g : Nat) : Int) + 1) = x5 by omega]; rfl) _ (lv_sub hl [0, 1, 2, 3, 4, 5, 6] rfl)
        exact loop_20 _ 0 _ _ (Nat.lt_succ_self _) (by first | rfl | omega) (by omega) (by omega) (by rw [hvO, mCk_s S w kk _ _ (by omega), ← hx4]; rfl) _ (lv_sub hl [0, 1, 2, 3, 4, 5] rfl)
  exact loop_5 _ 0 _ _ (Nat.lt_succ_self _) (by first | rfl | omega) (by omega) (by omega) rfl _ (lv_sub hl [0, 1, 2, 3, 4] rfl)

/-! the reference asks, looks for the earliest, closes -/
theorem bI_i (x : Bool) : bI x = if x = true then 1 else 0 := by cases x <;> rfl
def kmA (S : St) (sh a b t : Int) : Int := if mPs S sh a b t = true then (if S 25 16 = 30 then 2 else 0) else 1
def mAkU (T : St) (sh a b t : Int) : St := s_up (mLy T sh a b).1 38 0 t
def mG5 (U : St) (sh t : Int) : St := s_up (s_up (s_up (s_up (s_up U 25 16 (U 25 16 + 1)) 37 (U 25 16 + 1).toNat sh) 38 (U 25 16 + 1).toNat t) 39 (U 25 16 + 1).toNat 1) 40 (U 25 16 + 1).toNat (U 40 0)
def mCp (U : St) (sh t : Int) : Nat → St
  | 0 => mG5 U sh t
  | n + 1 => s_up (s_up (mCp U sh t n) 41 (8 * (U 25 16 + 1) + (n : Int)).toNat (mCp U sh t n 41 (n : Int).toNat)) 42 (8 * (U 25 16 + 1) + (n : Int)).toNat (mCp U sh t n 42 (n : Int).toNat)
theorem mCp_s (U : St) (sh t : Int) (n : Nat) : mCp U sh t (n + 1) = s_up (s_up (mCp U sh t n) 41 (8 * (U 25 16 + 1) + (n : Int)).toNat (mCp U sh t n 41 (n : Int).toNat)) 42 (8 * (U 25 16 + 1) + (n : Int)).toNat (mCp U sh t n 42 (n : Int).toNat) := rfl
theorem mCp_ne (U : St) (sh t : Int) (n : Nat) {c : Nat} (h1 : c ≠ 41) (h2 : c ≠ 42) : mCp U sh t n c = mG5 U sh t c := by
  induction n with
  | zero => rfl
  | succ n ih => rw [mCp_s, s_up_cell h2, s_up_cell h1, ih]
theorem mCp_25 (U : St) (sh t : Int) (n : Nat) : mCp U sh t n 25 16 = U 25 16 + 1 := by
  rw [mCp_ne _ _ _ _ (by decide) (by decide)]
  simp [mG5, s_up_at]
theorem mCp_40 (U : St) (sh t : Int) (n : Nat) (h : 0 ≤ U 25 16) : mCp U sh t n 40 0 = U 40 0 := by
  rw [mCp_ne _ _ _ _ (by decide) (by decide)]
  unfold mG5
  rw [s_up_ne (by omega), s_up_cell (by decide), s_up_cell (by decide), s_up_cell (by decide), s_up_cell (by decide)]
theorem mG5_I {U : St} (h : Inv U) {sh t : Int} (hsh : 0 ≤ sh ∧ sh < 12) (ht : 0 ≤ t ∧ t ≤ 100000) (hm : U 25 16 < 30) : Inv (mG5 U sh t) := by
  have h1 := iv_25k h
  have h2 := iv_40 h 0
  have a1 := Inv.up (q := 25) (i := 16) (x := U 25 16 + 1) h (by omega) (show _ ≤ 30 by omega)
  have a2 := Inv.up (q := 37) (i := (U 25 16 + 1).toNat) (x := sh) a1 (by omega) (show _ ≤ 11 by omega)
  have a3 := Inv.up (q := 38) (i := (U 25 16 + 1).toNat) (x := t) a2 (by omega) (show _ ≤ 100000 by omega)
  have a4 := Inv.up (q := 39) (i := (U 25 16 + 1).toNat) (x := 1) a3 (by omega) (show (1 : Int) ≤ 1 by omega)
  exact Inv.up (q := 40) (i := (U 25 16 + 1).toNat) (x := U 40 0) a4 (by omega) (show _ ≤ 7 by omega)
theorem mCp_I {U : St} {sh t : Int} (h : Inv (mG5 U sh t)) (n : Nat) : Inv (mCp U sh t n) := by
  induction n with
  | zero => exact h
  | succ n ih =>
    have h1 := iv_41 ih (n : Int).toNat
    have h2 := iv_42 ih (n : Int).toNat
    exact Inv.up (q := 42) (Inv.up (q := 41) ih h1.1 h1.2) h2.1 h2.2
theorem mLl_40 (sh b : Int) (f : Nat) (T : St) (x : Int) {j : Nat} (hj : j ≠ 0) : mLl sh b f T x 40 j = T 40 j := by
  induction f generalizing T x with
  | zero => rfl
  | succ f ih =>
    unfold mLl
    split
    · rfl
    · rw [ih]
      unfold mSy
      rw [s_up_ne hj, s_up_cell (by decide), s_up_cell (by decide)]
theorem mLl_ne (sh b : Int) (f : Nat) (T : St) (x : Int) {c : Nat} (h1 : c ≠ 40) (h2 : c ≠ 41) (h3 : c ≠ 42) : mLl sh b f T x c = T c := by
  induction f generalizing T x with
  | zero => rfl
  | succ f ih =>
    unfold mLl
    split
    · rfl
    · rw [ih]
      unfold mSy
      rw [s_up_cell h1, s_up_cell h3, s_up_cell h2]
theorem mLy_ne (T : St) (sh a b : Int) {c : Nat} (h1 : c ≠ 40) (h2 : c ≠ 41) (h3 : c ≠ 42) : (mLy T sh a b).1 c = mL0 T sh b c := by
  rw [mLy_u]
  split
  · rfl
  · exact mLl_ne sh b 8 _ _ h1 h2 h3
theorem mLy_16 (T : St) (sh a b : Int) : (mLy T sh a b).1 25 16 = T 25 16 := by
  rw [mLy_ne _ _ _ _ (by decide) (by decide) (by decide), mL0_ne _ _ _ (by decide) (by decide) (by decide)]
theorem mLy_40 (T : St) (sh a b : Int) {j : Nat} (hj : j ≠ 0) : (mLy T sh a b).1 40 j = T 40 j := by
  have e : mL0 T sh b 40 j = T 40 j := by
    unfold mL0
    rw [s_up_ne hj, s_up_cell (by decide), mTt_ne _ _ _ (by decide)]
  rw [mLy_u]
  split
  · exact e
  · exact (mLl_40 sh b 8 _ _ hj).trans e
theorem mL0_37 (T : St) (sh b : Int) (j : Nat) : mL0 T sh b 37 j = if j = 0 then sh else T 37 j := by
  unfold mL0
  rw [s_up_cell (by decide), s_up_same]
  unfold va_up
  rw [mTt_ne _ _ _ (by decide)]
/-- every row that is laid has a ship that sails -/
theorem mLy_so {T : St} {sh : Int} (a b : Int) (hs : 1 ≤ T 35 sh.toNat) (hso : ∀ j : Nat, 0 < T 40 j → 1 ≤ T 35 (T 37 j).toNat) (j : Nat) (h : 0 < (mLy T sh a b).1 40 j) : 1 ≤ (mLy T sh a b).1 35 ((mLy T sh a b).1 37 j).toNat := by
  rw [mLy_ne _ _ _ _ (show 35 ≠ 40 by decide) (by decide) (by decide), mLy_ne _ _ _ _ (show 37 ≠ 40 by decide) (by decide) (by decide), mL0_ne _ _ _ (show 35 ≠ 37 by decide) (by decide) (by decide), mL0_37]
  by_cases e : j = 0
  · rw [if_pos e]; exact hs
  · rw [if_neg e]
    rw [mLy_40 _ _ _ _ e] at h
    exact hso j h
theorem mAk_so {T : St} {sh : Int} (a b t : Int) (hs : 1 ≤ T 35 sh.toNat) (hso : ∀ j : Nat, 0 < T 40 j → 1 ≤ T 35 (T 37 j).toNat) (j : Nat) (h : 0 < s_up (mLy T sh a b).1 38 0 t 40 j) : 1 ≤ s_up (mLy T sh a b).1 38 0 t 35 (s_up (mLy T sh a b).1 38 0 t 37 j).toNat := by
  rw [s_up_cell (by decide)] at h
  rw [s_up_cell (show 35 ≠ 38 by decide), s_up_cell (show 37 ≠ 38 by decide)]
  exact mLy_so a b hs hso j h
def mAkR (T : St) (sh a b t : Int) : Int := if (mLy T sh a b).2 = false then 0 else if 0 < mAg (mAkU T sh a b t) 0 0 0 (mAkU T sh a b t 40 (0 : Int).toNat).toNat then -1 - mAg (mAkU T sh a b t) 0 0 0 (mAkU T sh a b t 40 (0 : Int).toNat).toNat else mAkU T sh a b t 25 16 + 1
def mAkS (T : St) (sh a b t : Int) : St := if (mLy T sh a b).2 = false then (mLy T sh a b).1 else if 0 < mAg (mAkU T sh a b t) 0 0 0 (mAkU T sh a b t 40 (0 : Int).toNat).toNat then mAkU T sh a b t else mCp (mAkU T sh a b t) sh t (mAkU T sh a b t 40 0).toNat
def kmE (S : St) (sh a b t : Int) : Int := if mPs S sh a b t = true then 0 else 1
def mEl (t : Int) : Nat → St → Int → St × Int
  | 0, T, _ => (T, -1)
  | n + 1, T, v => if v ≤ t + 2880 ∧ v ≤ 100000 then (if mAg (s_up T 38 0 v) 0 0 0 (s_up T 38 0 v 40 (0 : Int).toNat).toNat = 0 then (s_up T 38 0 v, v) else mEl t n (s_up T 38 0 v) (v + 1)) else (T, -1)
theorem mEl_s (t : Int) (n : Nat) (T : St) (v : Int) (h : 0 < n) : mEl t n T v = if v ≤ t + 2880 ∧ v ≤ 100000 then (if mAg (s_up T 38 0 v) 0 0 0 (s_up T 38 0 v 40 (0 : Int).toNat).toNat = 0 then (s_up T 38 0 v, v) else mEl t (n - 1) (s_up T 38 0 v) (v + 1)) else (T, -1) := by
  have e : n = (n - 1) + 1 := by omega
  rw [e]
  rfl
theorem mEl_x (t : Int) (n : Nat) (T : St) (v : Int) (h : ¬ (v ≤ t + 2880 ∧ v ≤ 100000)) : mEl t n T v = (T, -1) := by
  cases n with
  | zero => rfl
  | succ n => rw [mEl_s _ _ _ _ (by omega), if_neg h]
def mEp (T : St) (sh a b t : Int) : St × Int := if (mLy T sh a b).2 = false then ((mLy T sh a b).1, -1) else mEl t 2882 (mLy T sh a b).1 t
def kmX (S : St) (q a b : Int) : Int := if wn q 0 (S 25 1 - 1) = true ∧ wn a (S 25 15) 100000 = true ∧ wn b (S 25 15) 100000 = true ∧ a < b then (if S 31 q.toNat = 4 then 2 else 0) else 1
def mSa (T : St) (q a b : Int) : St := s_up (s_up (s_up T 32 (4 * q + T 31 q.toNat).toNat a) 33 (4 * q + T 31 q.toNat).toNat b) 31 q.toNat (T 31 q.toNat + 1)
def mEd (T : St) (q a b k : Int) : Nat → Bool
  | 0 => false
  | j + 1 => mEd T q a b k j || (decide (T 41 (8 * k + (j : Int)).toNat = q) && (decide (mEn T k (j : Int).toNat < b) && decide (a < mLv T k (j : Int))))
theorem mEd_s (T : St) (q a b k : Int) (j : Nat) : mEd T q a b k (j + 1) = (mEd T q a b k j || (decide (T 41 (8 * k + (j : Int)).toNat = q) && (decide (mEn T k (j : Int).toNat < b) && decide (a < mLv T k (j : Int))))) := rfl
def mEe (T : St) (q a b k : Int) : Bool := !decide (T 39 k.toNat = 0) && mEd T q a b k (T 40 k.toNat).toNat
def mCs (T : St) (q a b : Int) : Nat → St
  | 0 => T
  | n + 1 => s_up (mCs T q a b n) 39 ((n : Int) + 1).toNat (if ¬ mCs T q a b n 39 ((n : Int) + 1).toNat = 0 ∧ mEe (mCs T q a b n) q a b ((n : Int) + 1) = false then 1 else 0)
theorem mCs_s (T : St) (q a b : Int) (n : Nat) : mCs T q a b (n + 1) = s_up (mCs T q a b n) 39 ((n : Int) + 1).toNat (if ¬ mCs T q a b n 39 ((n : Int) + 1).toNat = 0 ∧ mEe (mCs T q a b n) q a b ((n : Int) + 1) = false then 1 else 0) := rfl
theorem mCs_ne (T : St) (q a b : Int) (n : Nat) {c : Nat} (h : c ≠ 39) : mCs T q a b n c = T c := by
  induction n with
  | zero => rfl
  | succ n ih => rw [mCs_s, s_up_cell h, ih]
theorem mCs_I {T : St} (h : Inv T) (q a b : Int) (n : Nat) : Inv (mCs T q a b n) := by
  induction n with
  | zero => exact h
  | succ n ih => exact Inv.up (q := 39) ih (by split <;> omega) (show _ ≤ 1 by split <;> omega)
def mCc (T : St) (q a b : Int) : Nat → Int
  | 0 => 0
  | n + 1 => mCc T q a b n + if mEe (mCs T q a b n) q a b ((n : Int) + 1) = true then 1 else 0
theorem mCc_s (T : St) (q a b : Int) (n : Nat) : mCc T q a b (n + 1) = mCc T q a b n + if mEe (mCs T q a b n) q a b ((n : Int) + 1) = true then 1 else 0 := rfl
theorem mCc_b (T : St) (q a b : Int) (n : Nat) : 0 ≤ mCc T q a b n ∧ mCc T q a b n ≤ (n : Int) := by
  induction n with
  | zero => simp [mCc]
  | succ n ih => rw [mCc_s]; split <;> omega
theorem mSa_I {T : St} (h : Inv T) {q a b : Int} (hm : T 31 q.toNat < 4) (ha : 0 ≤ a ∧ a ≤ 100000) (hb : 0 ≤ b ∧ b ≤ 100000) : Inv (mSa T q a b) := by
  have h1 := iv_31 h q.toNat
  exact Inv.up (q := 31) (Inv.up (q := 33) (Inv.up (q := 32) h ha.1 ha.2) hb.1 hb.2) (by omega) (show _ ≤ 4 by omega)
set_option maxHeartbeats 4000000 in
set_option maxRecDepth 100000 in
theorem c_md_ask (l : Launch) (G : Gt) (S : St) (sh : Int) (a : Int) (b : Int) (t : Int) (hI : Inv S) (hsh : i32 sh) (ha : i32 a) (hb : i32 b) (ht : i32 t) (hsp2 : ∀ j : Nat, (j : Int) < S 25 10 → 1 ≤ S 35 j) (hle : ∀ j : Nat, (j : Int) < S 25 1 → 1 ≤ S 28 j) (hso : ∀ j : Nat, 0 < S 40 j → 1 ≤ S 35 (S 37 j).toNat) : Met l y_md_ask [.code y_md_ask b_md_ask 7 (some .int)] { frames := 6, cells := 0, slots := 0, locals := 150 } (va_Pc [.ref (G.2.1 25), .int (iI (sh)), .int (iI (a)), .int (iI (b)), .int (iI (t))] (fun U => wu G S U)) (qW G (if kmA S sh a b t = 0 then mAkS (s_up S 25 0 0) sh a b t else s_up S 25 0 (kmA S sh a b t)) (if kmA S sh a b t = 0 then mAkR (s_up S 25 0 0) sh a b t else 0)) 0 0 (gA G) := by
  refine mt_of (by decide +kernel) (Nat.le_of_ble_eq_true rfl) ?_
  intro p e s m below meth c ls hadm hC hr hlk hex hw hl
  have hC : CallFix p m c b_md_ask 7 s _ tws "ChannelRulesModel" := hC
  have hl : lv_has ls 7 [(0, .ref (G.2.1 25)), (1, .int (iI (sh))), (2, .int (iI (a))), (3, .int (iI (b))), (4, .int (iI (t)))] := hl
  have i3 := iv_25k hI
  have i15 := iv_25 hI 15
  refine lv_aload_n hC.1 hC.2.1 d_md_ask_0 rfl (lv_at hl 0 rfl) ?_
  refine lv_iload_n hC.1 hC.2.1 d_md_ask_1 rfl (lv_at hl 1 rfl) ?_
  refine lv_iload_n hC.1 hC.2.1 d_md_ask_2 rfl (lv_at hl 2 rfl) ?_
  refine lv_iload_n hC.1 hC.2.1 d_md_ask_3 rfl (lv_at hl 3 rfl) ?_
  refine lv_iload hC.1 hC.2.1 d_md_ask_4 (lv_at hl 4 rfl) ?_
  refine go_R (ca_V (As := [.int (iI (sh)), .int (iI (a)), .int (iI (b)), .int (iI (t))]) (rest := []) hC hw (c_md_isPassage l G S sh a b t hI (by omega) (by omega) (by omega) (by omega)) (cv_md_143 hC rfl rfl (Nat.le_of_ble_eq_true rfl) (Nat.le_of_ble_eq_true rfl)) (by decide) rfl rfl rfl hl.1 rfl (Nat.le_of_ble_eq_true rfl) d_md_ask_6 ⟨Nat.le_of_ble_eq_true rfl, Nat.le_of_ble_eq_true rfl⟩) ?_
  refine ir_bne (tgt := 18) hC d_md_ask_9 (by decide) (fun c_1 => ?_) (fun c_1 => ?_)
  · skip
    have w_2 := mPs_t c_1
    refine lv_aload_n hC.1 hC.2.1 d_md_ask_18 rfl (lv_at hl 0 rfl) ?_
    refine gf_md_75 hC hw d_md_ask_19 ?_
    have b_3 := iv_25k hI
    refine lv_bipush (v := iI 30) hC.1 hC.2.1 d_md_ask_22 (by decide +kernel) ?_
    refine ir_ne (tgt := 33) hC.1 hC.2.1 d_md_ask_24 (by decide) ⟨by omega, by omega⟩ (by decide) (fun c_4 => ?_) (fun c_4 => ?_)
    · skip
      refine lv_aload_n hC.1 hC.2.1 d_md_ask_33 rfl (lv_at hl 0 rfl) ?_
      refine lv_iconst (v := iI 0) hC.1 hC.2.1 d_md_ask_34 rfl ?_
      refine pf_md_65 (x := 0) hC hw d_md_ask_35 (fun H locs hw => ?_)
      have hI_5 := Inv.up (q := 25) (i := 0) (x := 0) hI (by omega) (show _ ≤ 2 from by omega)
      have hs1 : 1 ≤ (s_up S 25 0 0) 35 sh.toNat := by simpa [s_up_cell] using hsp2 sh.toNat (by omega)
      have hle1 : ∀ j : Nat, (j : Int) < (s_up S 25 0 0) 25 1 → 1 ≤ (s_up S 25 0 0) 28 j := by simpa [s_up_at] using hle
      have b10 := iv_25s hI
      have hsoT : ∀ j : Nat, 0 < (s_up S 25 0 0) 40 j → 1 ≤ (s_up S 25 0 0) 35 ((s_up S 25 0 0) 37 j).toNat := by simpa [s_up_cell] using hso
      refine lv_aload_n hC.1 hC.2.1 d_md_ask_38 rfl (lv_at hl 0 rfl) ?_
      refine lv_iload_n hC.1 hC.2.1 d_md_ask_39 rfl (lv_at hl 1 rfl) ?_
      refine lv_iload_n hC.1 hC.2.1 d_md_ask_40 rfl (lv_at hl 2 rfl) ?_
      refine lv_iload_n hC.1 hC.2.1 d_md_ask_41 rfl (lv_at hl 3 rfl) ?_
      refine go_W (ca_V (As := [.int (iI (sh)), .int (iI (a)), .int (iI (b))]) (rest := []) hC hw (c_md_lays l G (s_up S 25 0 0) sh a b hI_5 (by omega) (by omega) (by omega) (by omega) (by assumption)) (cv_md_116 hC rfl rfl (Nat.le_of_ble_eq_true rfl) (Nat.le_of_ble_eq_true rfl)) (by decide) rfl rfl rfl hl.1 rfl (Nat.le_of_ble_eq_true rfl) d_md_ask_42 ⟨Nat.le_of_ble_eq_true rfl, Nat.le_of_ble_eq_true rfl⟩) hw (fun H locs hw => ?_)
      refine ir_bne (tgt := 50) hC d_md_ask_45 (by decide) (fun c_6 => ?_) (fun c_6 => ?_)
      · skip
        have z16 := mLy_16 (s_up S 25 0 0) sh a b
        have zs : (s_up S 25 0 0) 25 16 = S 25 16 := by simp [s_up_at]
        refine lv_aload_n hC.1 hC.2.1 d_md_ask_50 rfl (lv_at hl 0 rfl) ?_
        refine gf_md_46 hC hw d_md_ask_51 ?_
        refine lv_iconst (v := iI 0) hC.1 hC.2.1 d_md_ask_54 rfl ?_
        refine lv_iload hC.1 hC.2.1 d_md_ask_55 (lv_at hl 4 rfl) ?_
        refine sc_38 0 (x := t) hC hw (by decide) d_md_ask_57 (fun H locs hw => ?_)
        have hI_7 := Inv.up (q := 38) (i := 0) (x := t) (mLy_I a hI_5 (show 0 ≤ sh ∧ sh < 12 by omega) (show 0 ≤ a ∧ a ≤ 7 by omega) (show 0 ≤ b ∧ b ≤ 7 by omega) (by first | assumption | (simp [s_up_cell]; assumption)) (by first | assumption | (simp [s_up_cell]; assumption))) (by omega) (show _ ≤ 100000 from by omega)
        have hso1 : ∀ j : Nat, 0 < (s_up ((mLy (s_up S 25 0 0) sh a b).1) 38 0 t) 40 j → 1 ≤ (s_up ((mLy (s_up S 25 0 0) sh a b).1) 38 0 t) 35 ((s_up ((mLy (s_up S 25 0 0) sh a b).1) 38 0 t) 37 j).toNat := mAk_so a b t hs1 hsoT
        have hIU : Inv (s_up ((mLy (s_up S 25 0 0) sh a b).1) 38 0 t) := hI_7
        have u16 : (s_up ((mLy (s_up S 25 0 0) sh a b).1) 38 0 t) 25 16 = S 25 16 := by rw [s_up_cell (by decide)]; omega
        have uA : mAkU (s_up S 25 0 0) sh a b t 25 16 = S 25 16 := u16
        refine lv_aload_n hC.1 hC.2.1 d_md_ask_58 rfl (lv_at hl 0 rfl) ?_
        refine lv_iconst (v := iI 0) hC.1 hC.2.1 d_md_ask_59 rfl ?_
        refine lv_iconst (v := iI 0) hC.1 hC.2.1 d_md_ask_60 rfl ?_
        refine go_R (ca_V (As := [.int (iI (0)), .int (iI (0))]) (rest := []) hC hw (c_md_against l G (s_up ((mLy (s_up S 25 0 0) sh a b).1) 38 0 t) 0 0 hI_7 (by omega) (by omega) (by assumption)) (cv_md_147 hC rfl rfl (Nat.le_of_ble_eq_true rfl) (Nat.le_of_ble_eq_true rfl)) (by decide) rfl rfl rfl hl.1 rfl (Nat.le_of_ble_eq_true rfl) d_md_ask_61 ⟨Nat.le_of_ble_eq_true rfl, Nat.le_of_ble_eq_true rfl⟩) ?_
        have r_8 := mAg_b (s_up ((mLy (s_up S 25 0 0) sh a b).1) 38 0 t) 0 0 0 ((s_up ((mLy (s_up S 25 0 0) sh a b).1) 38 0 t) 40 (0 : Int).toNat).toNat
        refine lv_istore (lv' := [(5, .int (iI (mAg (s_up ((mLy (s_up S 25 0 0) sh a b).1) 38 0 t) 0 0 0 ((s_up ((mLy (s_up S 25 0 0) sh a b).1) 38 0 t) 40 (0 : Int).toNat).toNat))), (0, .ref (G.2.1 25)), (1, .int (iI (sh))), (2, .int (iI (a))), (3, .int (iI (b))), (4, .int (iI (t)))]) hC.1 hC.2.1 d_md_ask_64 hl (by decide) rfl (fun ls hl => ?_)
        have hag : mAg (mAkU (s_up S 25 0 0) sh a b t) 0 0 0 ((mAkU (s_up S 25 0 0) sh a b t) 40 (0 : Int).toNat).toNat = mAg (s_up ((mLy (s_up S 25 0 0) sh a b).1) 38 0 t) 0 0 0 ((s_up ((mLy (s_up S 25 0 0) sh a b).1) 38 0 t) 40 (0 : Int).toNat).toNat := rfl
        refine lv_iload hC.1 hC.2.1 d_md_ask_66 (lv_at hl 0 rfl) ?_
        refine ir_if_le (tgt := 76) hC.1 hC.2.1 d_md_ask_68 (by decide) ⟨by omega, by omega⟩ (fun c_9 => ?_) (fun c_9 => ?_)
        · skip
          refine lv_aload_n hC.1 hC.2.1 d_md_ask_76 rfl (lv_at hl 1 rfl) ?_
          refine lv_dup hC.1 hC.2.1 d_md_ask_77 rfl ?_
          refine gf_md_75 hC hw d_md_ask_78 ?_
          have b_10 := iv_25k hI_7
          have z_11 : (s_up ((mLy (s_up S 25 0 0) sh a b).1) 38 0 t) 25 16 = (s_up ((mLy (s_up S 25 0 0) sh a b).1) 38 0 t) 25 16 := rfl
          conv at z_11 => rhs; (try simp [s_up_at])
          refine lv_iconst (v := iI 1) hC.1 hC.2.1 d_md_ask_81 rfl ?_
          refine ir_add hC.1 hC.2.1 d_md_ask_82 ?_
          refine pf_md_75 (x := ((s_up ((mLy (s_up S 25 0 0) sh a b).1) 38 0 t) 25 16) + 1) hC hw d_md_ask_83 (fun H locs hw => ?_)
          have hI_12 := Inv.up (q := 25) (i := 16) (x := ((s_up ((mLy (s_up S 25 0 0) sh a b).1) 38 0 t) 25 16) + 1) hI_7 (by omega) (show _ ≤ 30 from by omega)
          refine lv_aload_n hC.1 hC.2.1 d_md_ask_86 rfl (lv_at hl 1 rfl) ?_
          refine gf_md_43 hC hw d_md_ask_87 ?_
          refine lv_aload_n hC.1 hC.2.1 d_md_ask_90 rfl (lv_at hl 1 rfl) ?_
          refine gf_md_75 hC hw d_md_ask_91 ?_
          have b_13 := iv_25k hI_12
          have z_14 : (s_up (s_up ((mLy (s_up S 25 0 0) sh a b).1) 38 0 t) 25 16 (((s_up ((mLy (s_up S 25 0 0) sh a b).1) 38 0 t) 25 16) + 1)) 25 16 = (s_up (s_up ((mLy (s_up S 25 0 0) sh a b).1) 38 0 t) 25 16 (((s_up ((mLy (s_up S 25 0 0) sh a b).1) 38 0 t) 25 16) + 1)) 25 16 := rfl
          conv at z_14 => rhs; (try simp [s_up_at])
          refine lv_iload_n hC.1 hC.2.1 d_md_ask_94 rfl (lv_at hl 2 rfl) ?_
          refine st_37 (x := sh) (z := (s_up (s_up ((mLy (s_up S 25 0 0) sh a b).1) 38 0 t) 25 16 (((s_up ((mLy (s_up S 25 0 0) sh a b).1) 38 0 t) 25 16) + 1)) 25 16) hC hw (by omega) (by omega) d_md_ask_95 (fun H locs hw => ?_)
          have hI_15 := Inv.up (q := 37) (i := ((s_up (s_up ((mLy (s_up S 25 0 0) sh a b).1) 38 0 t) 25 16 (((s_up ((mLy (s_up S 25 0 0) sh a b).1) 38 0 t) 25 16) + 1)) 25 16).toNat) (x := sh) hI_12 (by omega) (show _ ≤ 11 from by omega)
          refine lv_aload_n hC.1 hC.2.1 d_md_ask_96 rfl (lv_at hl 1 rfl) ?_
          refine gf_md_46 hC hw d_md_ask_97 ?_
          refine lv_aload_n hC.1 hC.2.1 d_md_ask_100 rfl (lv_at hl 1 rfl) ?_
          refine gf_md_75 hC hw d_md_ask_101 ?_
          have b_16 := iv_25k hI_15
          have z_17 : (s_up (s_up (s_up ((mLy (s_up S 25 0 0) sh a b).1) 38 0 t) 25 16 (((s_up ((mLy (s_up S 25 0 0) sh a b).1) 38 0 t) 25 16) + 1)) 37 ((s_up (s_up ((mLy (s_up S 25 0 0) sh a b).1) 38 0 t) 25 16 (((s_up ((mLy (s_up S 25 0 0) sh a b).1) 38 0 t) 25 16) + 1)) 25 16).toNat sh) 25 16 = (s_up (s_up (s_up ((mLy (s_up S 25 0 0) sh a b).1) 38 0 t) 25 16 (((s_up ((mLy (s_up S 25 0 0) sh a b).1) 38 0 t) 25 16) + 1)) 37 ((s_up (s_up ((mLy (s_up S 25 0 0) sh a b).1) 38 0 t) 25 16 (((s_up ((mLy (s_up S 25 0 0) sh a b).1) 38 0 t) 25 16) + 1)) 25 16).toNat sh) 25 16 := rfl
          conv at z_17 => rhs; (try simp [s_up_at])
          refine lv_iload hC.1 hC.2.1 d_md_ask_104 (lv_at hl 5 rfl) ?_
          refine st_38 (x := t) (z := (s_up (s_up (s_up ((mLy (s_up S 25 0 0) sh a b).1) 38 0 t) 25 16 (((s_up ((mLy (s_up S 25 0 0) sh a b).1) 38 0 t) 25 16) + 1)) 37 ((s_up (s_up ((mLy (s_up S 25 0 0) sh a b).1) 38 0 t) 25 16 (((s_up ((mLy (s_up S 25 0 0) sh a b).1) 38 0 t) 25 16) + 1)) 25 16).toNat sh) 25 16) hC hw (by omega) (by omega) d_md_ask_106 (fun H locs hw => ?_)
          have hI_18 := Inv.up (q := 38) (i := ((s_up (s_up (s_up ((mLy (s_up S 25 0 0) sh a b).1) 38 0 t) 25 16 (((s_up ((mLy (s_up S 25 0 0) sh a b).1) 38 0 t) 25 16) + 1)) 37 ((s_up (s_up ((mLy (s_up S 25 0 0) sh a b).1) 38 0 t) 25 16 (((s_up ((mLy (s_up S 25 0 0) sh a b).1) 38 0 t) 25 16) + 1)) 25 16).toNat sh) 25 16).toNat) (x := t) hI_15 (by omega) (show _ ≤ 100000 from by omega)
          refine lv_aload_n hC.1 hC.2.1 d_md_ask_107 rfl (lv_at hl 1 rfl) ?_
          refine gf_md_49 hC hw d_md_ask_108 ?_
          refine lv_aload_n hC.1 hC.2.1 d_md_ask_111 rfl (lv_at hl 1 rfl) ?_
          refine gf_md_75 hC hw d_md_ask_112 ?_
          have b_19 := iv_25k hI_18
          have z_20 : (s_up (s_up (s_up (s_up ((mLy (s_up S 25 0 0) sh a b).1) 38 0 t) 25 16 (((s_up ((mLy (s_up S 25 0 0) sh a b).1) 38 0 t) 25 16) + 1)) 37 ((s_up (s_up ((mLy (s_up S 25 0 0) sh a b).1) 38 0 t) 25 16 (((s_up ((mLy (s_up S 25 0 0) sh a b).1) 38 0 t) 25 16) + 1)) 25 16).toNat sh) 38 ((s_up (s_up (s_up ((mLy (s_up S 25 0 0) sh a b).1) 38 0 t) 25 16 (((s_up ((mLy (s_up S 25 0 0) sh a b).1) 38 0 t) 25 16) + 1)) 37 ((s_up (s_up ((mLy (s_up S 25 0 0) sh a b).1) 38 0 t) 25 16 (((s_up ((mLy (s_up S 25 0 0) sh a b).1) 38 0 t) 25 16) + 1)) 25 16).toNat sh) 25 16).toNat t) 25 16 = (s_up (s_up (s_up (s_up ((mLy (s_up S 25 0 0) sh a b).1) 38 0 t) 25 16 (((s_up ((mLy (s_up S 25 0 0) sh a b).1) 38 0 t) 25 16) + 1)) 37 ((s_up (s_up ((mLy (s_up S 25 0 0) sh a b).1) 38 0 t) 25 16 (((s_up ((mLy (s_up S 25 0 0) sh a b).1) 38 0 t) 25 16) + 1)) 25 16).toNat sh) 38 ((s_up (s_up (s_up ((mLy (s_up S 25 0 0) sh a b).1) 38 0 t) 25 16 (((s_up ((mLy (s_up S 25 0 0) sh a b).1) 38 0 t) 25 16) + 1)) 37 ((s_up (s_up ((mLy (s_up S 25 0 0) sh a b).1) 38 0 t) 25 16 (((s_up ((mLy (s_up S 25 0 0) sh a b).1) 38 0 t) 25 16) + 1)) 25 16).toNat sh) 25 16).toNat t) 25 16 := rfl
          conv at z_20 => rhs; (try simp [s_up_at])
          refine lv_iconst (v := iI 1) hC.1 hC.2.1 d_md_ask_115 rfl ?_
          refine st_39 (x := 1) (z := (s_up (s_up (s_up (s_up ((mLy (s_up S 25 0 0) sh a b).1) 38 0 t) 25 16 (((s_up ((mLy (s_up S 25 0 0) sh a b).1) 38 0 t) 25 16) + 1)) 37 ((s_up (s_up ((mLy (s_up S 25 0 0) sh a b).1) 38 0 t) 25 16 (((s_up ((mLy (s_up S 25 0 0) sh a b).1) 38 0 t) 25 16) + 1)) 25 16).toNat sh) 38 ((s_up (s_up (s_up ((mLy (s_up S 25 0 0) sh a b).1) 38 0 t) 25 16 (((s_up ((mLy (s_up S 25 0 0) sh a b).1) 38 0 t) 25 16) + 1)) 37 ((s_up (s_up ((mLy (s_up S 25 0 0) sh a b).1) 38 0 t) 25 16 (((s_up ((mLy (s_up S 25 0 0) sh a b).1) 38 0 t) 25 16) + 1)) 25 16).toNat sh) 25 16).toNat t) 25 16) hC hw (by omega) (by omega) (by omega) d_md_ask_116 (fun H locs hw => ?_)
          have hI_21 := Inv.up (q := 39) (i := ((s_up (s_up (s_up (s_up ((mLy (s_up S 25 0 0) sh a b).1) 38 0 t) 25 16 (((s_up ((mLy (s_up S 25 0 0) sh a b).1) 38 0 t) 25 16) + 1)) 37 ((s_up (s_up ((mLy (s_up S 25 0 0) sh a b).1) 38 0 t) 25 16 (((s_up ((mLy (s_up S 25 0 0) sh a b).1) 38 0 t) 25 16) + 1)) 25 16).toNat sh) 38 ((s_up (s_up (s_up ((mLy (s_up S 25 0 0) sh a b).1) 38 0 t) 25 16 (((s_up ((mLy (s_up S 25 0 0) sh a b).1) 38 0 t) 25 16) + 1)) 37 ((s_up (s_up ((mLy (s_up S 25 0 0) sh a b).1) 38 0 t) 25 16 (((s_up ((mLy (s_up S 25 0 0) sh a b).1) 38 0 t) 25 16) + 1)) 25 16).toNat sh) 25 16).toNat t) 25 16).toNat) (x := 1) hI_18 (by omega) (show _ ≤ 1 from by omega)
          refine lv_aload_n hC.1 hC.2.1 d_md_ask_117 rfl (lv_at hl 1 rfl) ?_
          refine gf_md_53 hC hw d_md_ask_118 ?_
          refine lv_aload_n hC.1 hC.2.1 d_md_ask_121 rfl (lv_at hl 1 rfl) ?_
          refine gf_md_75 hC hw d_md_ask_122 ?_
          have b_22 := iv_25k hI_21
          have z_23 : (s_up (s_up (s_up (s_up (s_up ((mLy (s_up S 25 0 0) sh a b).1) 38 0 t) 25 16 (((s_up ((mLy (s_up S 25 0 0) sh a b).1) 38 0 t) 25 16) + 1)) 37 ((s_up (s_up ((mLy (s_up S 25 0 0) sh a b).1) 38 0 t) 25 16 (((s_up ((mLy (s_up S 25 0 0) sh a b).1) 38 0 t) 25 16) + 1)) 25 16).toNat sh) 38 ((s_up (s_up (s_up ((mLy (s_up S 25 0 0) sh a b).1) 38 0 t) 25 16 (((s_up ((mLy (s_up S 25 0 0) sh a b).1) 38 0 t) 25 16) + 1)) 37 ((s_up (s_up ((mLy (s_up S 25 0 0) sh a b).1) 38 0 t) 25 16 (((s_up ((mLy (s_up S 25 0 0) sh a b).1) 38 0 t) 25 16) + 1)) 25 16).toNat sh) 25 16).toNat t) 39 ((s_up (s_up (s_up (s_up ((mLy (s_up S 25 0 0) sh a b).1) 38 0 t) 25 16 (((s_up ((mLy (s_up S 25 0 0) sh a b).1) 38 0 t) 25 16) + 1)) 37 ((s_up (s_up ((mLy (s_up S 25 0 0) sh a b).1) 38 0 t) 25 16 (((s_up ((mLy (s_up S 25 0 0) sh a b).1) 38 0 t) 25 16) + 1)) 25 16).toNat sh) 38 ((s_up (s_up (s_up ((mLy (s_up S 25 0 0) sh a b).1) 38 0 t) 25 16 (((s_up ((mLy (s_up S 25 0 0) sh a b).1) 38 0 t) 25 16) + 1)) 37 ((s_up (s_up ((mLy (s_up S 25 0 0) sh a b).1) 38 0 t) 25 16 (((s_up ((mLy (s_up S 25 0 0) sh a b).1) 38 0 t) 25 16) + 1)) 25 16).toNat sh) 25 16).toNat t) 25 16).toNat 1) 25 16 = (s_up (s_up (s_up (s_up (s_up ((mLy (s_up S 25 0 0) sh a b).1) 38 0 t) 25 16 (((s_up ((mLy (s_up S 25 0 0) sh a b).1) 38 0 t) 25 16) + 1)) 37 ((s_up (s_up ((mLy (s_up S 25 0 0) sh a b).1) 38 0 t) 25 16 (((s_up ((mLy (s_up S 25 0 0) sh a b).1) 38 0 t) 25 16) + 1)) 25 16).toNat sh) 38 ((s_up (s_up (s_up ((mLy (s_up S 25 0 0) sh a b).1) 38 0 t) 25 16 (((s_up ((mLy (s_up S 25 0 0) sh a b).1) 38 0 t) 25 16) + 1)) 37 ((s_up (s_up ((mLy (s_up S 25 0 0) sh a b).1) 38 0 t) 25 16 (((s_up ((mLy (s_up S 25 0 0) sh a b).1) 38 0 t) 25 16) + 1)) 25 16).toNat sh) 25 16).toNat t) 39 ((s_up (s_up (s_up (s_up ((mLy (s_up S 25 0 0) sh a b).1) 38 0 t) 25 16 (((s_up ((mLy (s_up S 25 0 0) sh a b).1) 38 0 t) 25 16) + 1)) 37 ((s_up (s_up ((mLy (s_up S 25 0 0) sh a b).1) 38 0 t) 25 16 (((s_up ((mLy (s_up S 25 0 0) sh a b).1) 38 0 t) 25 16) + 1)) 25 16).toNat sh) 38 ((s_up (s_up (s_up ((mLy (s_up S 25 0 0) sh a b).1) 38 0 t) 25 16 (((s_up ((mLy (s_up S 25 0 0) sh a b).1) 38 0 t) 25 16) + 1)) 37 ((s_up (s_up ((mLy (s_up S 25 0 0) sh a b).1) 38 0 t) 25 16 (((s_up ((mLy (s_up S 25 0 0) sh a b).1) 38 0 t) 25 16) + 1)) 25 16).toNat sh) 25 16).toNat t) 25 16).toNat 1) 25 16 := rfl
          conv at z_23 => rhs; (try simp [s_up_at])
          refine lv_aload_n hC.1 hC.2.1 d_md_ask_125 rfl (lv_at hl 1 rfl) ?_
          refine gf_md_53 hC hw d_md_ask_126 ?_
          refine lv_iconst (v := iI 0) hC.1 hC.2.1 d_md_ask_129 rfl ?_
          refine lc_40 0 hC hw (by decide) d_md_ask_130 ?_
          have b_24 := iv_40 hI_21 0
          have z_25 : (s_up (s_up (s_up (s_up (s_up ((mLy (s_up S 25 0 0) sh a b).1) 38 0 t) 25 16 (((s_up ((mLy (s_up S 25 0 0) sh a b).1) 38 0 t) 25 16) + 1)) 37 ((s_up (s_up ((mLy (s_up S 25 0 0) sh a b).1) 38 0 t) 25 16 (((s_up ((mLy (s_up S 25 0 0) sh a b).1) 38 0 t) 25 16) + 1)) 25 16).toNat sh) 38 ((s_up (s_up (s_up ((mLy (s_up S 25 0 0) sh a b).1) 38 0 t) 25 16 (((s_up ((mLy (s_up S 25 0 0) sh a b).1) 38 0 t) 25 16) + 1)) 37 ((s_up (s_up ((mLy (s_up S 25 0 0) sh a b).1) 38 0 t) 25 16 (((s_up ((mLy (s_up S 25 0 0) sh a b).1) 38 0 t) 25 16) + 1)) 25 16).toNat sh) 25 16).toNat t) 39 ((s_up (s_up (s_up (s_up ((mLy (s_up S 25 0 0) sh a b).1) 38 0 t) 25 16 (((s_up ((mLy (s_up S 25 0 0) sh a b).1) 38 0 t) 25 16) + 1)) 37 ((s_up (s_up ((mLy (s_up S 25 0 0) sh a b).1) 38 0 t) 25 16 (((s_up ((mLy (s_up S 25 0 0) sh a b).1) 38 0 t) 25 16) + 1)) 25 16).toNat sh) 38 ((s_up (s_up (s_up ((mLy (s_up S 25 0 0) sh a b).1) 38 0 t) 25 16 (((s_up ((mLy (s_up S 25 0 0) sh a b).1) 38 0 t) 25 16) + 1)) 37 ((s_up (s_up ((mLy (s_up S 25 0 0) sh a b).1) 38 0 t) 25 16 (((s_up ((mLy (s_up S 25 0 0) sh a b).1) 38 0 t) 25 16) + 1)) 25 16).toNat sh) 25 16).toNat t) 25 16).toNat 1) 40 0 = (s_up (s_up (s_up (s_up (s_up ((mLy (s_up S 25 0 0) sh a b).1) 38 0 t) 25 16 (((s_up ((mLy (s_up S 25 0 0) sh a b).1) 38 0 t) 25 16) + 1)) 37 ((s_up (s_up ((mLy (s_up S 25 0 0) sh a b).1) 38 0 t) 25 16 (((s_up ((mLy (s_up S 25 0 0) sh a b).1) 38 0 t) 25 16) + 1)) 25 16).toNat sh) 38 ((s_up (s_up (s_up ((mLy (s_up S 25 0 0) sh a b).1) 38 0 t) 25 16 (((s_up ((mLy (s_up S 25 0 0) sh a b).1) 38 0 t) 25 16) + 1)) 37 ((s_up (s_up ((mLy (s_up S 25 0 0) sh a b).1) 38 0 t) 25 16 (((s_up ((mLy (s_up S 25 0 0) sh a b).1) 38 0 t) 25 16) + 1)) 25 16).toNat sh) 25 16).toNat t) 39 ((s_up (s_up (s_up (s_up ((mLy (s_up S 25 0 0) sh a b).1) 38 0 t) 25 16 (((s_up ((mLy (s_up S 25 0 0) sh a b).1) 38 0 t) 25 16) + 1)) 37 ((s_up (s_up ((mLy (s_up S 25 0 0) sh a b).1) 38 0 t) 25 16 (((s_up ((mLy (s_up S 25 0 0) sh a b).1) 38 0 t) 25 16) + 1)) 25 16).toNat sh) 38 ((s_up (s_up (s_up ((mLy (s_up S 25 0 0) sh a b).1) 38 0 t) 25 16 (((s_up ((mLy (s_up S 25 0 0) sh a b).1) 38 0 t) 25 16) + 1)) 37 ((s_up (s_up ((mLy (s_up S 25 0 0) sh a b).1) 38 0 t) 25 16 (((s_up ((mLy (s_up S 25 0 0) sh a b).1) 38 0 t) 25 16) + 1)) 25 16).toNat sh) 25 16).toNat t) 25 16).toNat 1) 40 0 := rfl
          conv at z_25 => rhs; (try simp [s_up_at])
          refine st_40 (x := (s_up (s_up (s_up (s_up (s_up ((mLy (s_up S 25 0 0) sh a b).1) 38 0 t) 25 16 (((s_up ((mLy (s_up S 25 0 0) sh a b).1) 38 0 t) 25 16) + 1)) 37 ((s_up (s_up ((mLy (s_up S 25 0 0) sh a b).1) 38 0 t) 25 16 (((s_up ((mLy (s_up S 25 0 0) sh a b).1) 38 0 t) 25 16) + 1)) 25 16).toNat sh) 38 ((s_up (s_up (s_up ((mLy (s_up S 25 0 0) sh a b).1) 38 0 t) 25 16 (((s_up ((mLy (s_up S 25 0 0) sh a b).1) 38 0 t) 25 16) + 1)) 37 ((s_up (s_up ((mLy (s_up S 25 0 0) sh a b).1) 38 0 t) 25 16 (((s_up ((mLy (s_up S 25 0 0) sh a b).1) 38 0 t) 25 16) + 1)) 25 16).toNat sh) 25 16).toNat t) 39 ((s_up (s_up (s_up (s_up ((mLy (s_up S 25 0 0) sh a b).1) 38 0 t) 25 16 (((s_up ((mLy (s_up S 25 0 0) sh a b).1) 38 0 t) 25 16) + 1)) 37 ((s_up (s_up ((mLy (s_up S 25 0 0) sh a b).1) 38 0 t) 25 16 (((s_up ((mLy (s_up S 25 0 0) sh a b).1) 38 0 t) 25 16) + 1)) 25 16).toNat sh) 38 ((s_up (s_up (s_up ((mLy (s_up S 25 0 0) sh a b).1) 38 0 t) 25 16 (((s_up ((mLy (s_up S 25 0 0) sh a b).1) 38 0 t) 25 16) + 1)) 37 ((s_up (s_up ((mLy (s_up S 25 0 0) sh a b).1) 38 0 t) 25 16 (((s_up ((mLy (s_up S 25 0 0) sh a b).1) 38 0 t) 25 16) + 1)) 25 16).toNat sh) 25 16).toNat t) 25 16).toNat 1) 40 0) (z := (s_up (s_up (s_up (s_up (s_up ((mLy (s_up S 25 0 0) sh a b).1) 38 0 t) 25 16 (((s_up ((mLy (s_up S 25 0 0) sh a b).1) 38 0 t) 25 16) + 1)) 37 ((s_up (s_up ((mLy (s_up S 25 0 0) sh a b).1) 38 0 t) 25 16 (((s_up ((mLy (s_up S 25 0 0) sh a b).1) 38 0 t) 25 16) + 1)) 25 16).toNat sh) 38 ((s_up (s_up (s_up ((mLy (s_up S 25 0 0) sh a b).1) 38 0 t) 25 16 (((s_up ((mLy (s_up S 25 0 0) sh a b).1) 38 0 t) 25 16) + 1)) 37 ((s_up (s_up ((mLy (s_up S 25 0 0) sh a b).1) 38 0 t) 25 16 (((s_up ((mLy (s_up S 25 0 0) sh a b).1) 38 0 t) 25 16) + 1)) 25 16).toNat sh) 25 16).toNat t) 39 ((s_up (s_up (s_up (s_up ((mLy (s_up S 25 0 0) sh a b).1) 38 0 t) 25 16 (((s_up ((mLy (s_up S 25 0 0) sh a b).1) 38 0 t) 25 16) + 1)) 37 ((s_up (s_up ((mLy (s_up S 25 0 0) sh a b).1) 38 0 t) 25 16 (((s_up ((mLy (s_up S 25 0 0) sh a b).1) 38 0 t) 25 16) + 1)) 25 16).toNat sh) 38 ((s_up (s_up (s_up ((mLy (s_up S 25 0 0) sh a b).1) 38 0 t) 25 16 (((s_up ((mLy (s_up S 25 0 0) sh a b).1) 38 0 t) 25 16) + 1)) 37 ((s_up (s_up ((mLy (s_up S 25 0 0) sh a b).1) 38 0 t) 25 16 (((s_up ((mLy (s_up S 25 0 0) sh a b).1) 38 0 t) 25 16) + 1)) 25 16).toNat sh) 25 16).toNat t) 25 16).toNat 1) 25 16) hC hw (by omega) (by omega) d_md_ask_131 (fun H locs hw => ?_)
          have hI_26 := Inv.up (q := 40) (i := ((s_up (s_up (s_up (s_up (s_up ((mLy (s_up S 25 0 0) sh a b).1) 38 0 t) 25 16 (((s_up ((mLy (s_up S 25 0 0) sh a b).1) 38 0 t) 25 16) + 1)) 37 ((s_up (s_up ((mLy (s_up S 25 0 0) sh a b).1) 38 0 t) 25 16 (((s_up ((mLy (s_up S 25 0 0) sh a b).1) 38 0 t) 25 16) + 1)) 25 16).toNat sh) 38 ((s_up (s_up (s_up ((mLy (s_up S 25 0 0) sh a b).1) 38 0 t) 25 16 (((s_up ((mLy (s_up S 25 0 0) sh a b).1) 38 0 t) 25 16) + 1)) 37 ((s_up (s_up ((mLy (s_up S 25 0 0) sh a b).1) 38 0 t) 25 16 (((s_up ((mLy (s_up S 25 0 0) sh a b).1) 38 0 t) 25 16) + 1)) 25 16).toNat sh) 25 16).toNat t) 39 ((s_up (s_up (s_up (s_up ((mLy (s_up S 25 0 0) sh a b).1) 38 0 t) 25 16 (((s_up ((mLy (s_up S 25 0 0) sh a b).1) 38 0 t) 25 16) + 1)) 37 ((s_up (s_up ((mLy (s_up S 25 0 0) sh a b).1) 38 0 t) 25 16 (((s_up ((mLy (s_up S 25 0 0) sh a b).1) 38 0 t) 25 16) + 1)) 25 16).toNat sh) 38 ((s_up (s_up (s_up ((mLy (s_up S 25 0 0) sh a b).1) 38 0 t) 25 16 (((s_up ((mLy (s_up S 25 0 0) sh a b).1) 38 0 t) 25 16) + 1)) 37 ((s_up (s_up ((mLy (s_up S 25 0 0) sh a b).1) 38 0 t) 25 16 (((s_up ((mLy (s_up S 25 0 0) sh a b).1) 38 0 t) 25 16) + 1)) 25 16).toNat sh) 25 16).toNat t) 25 16).toNat 1) 25 16).toNat) (x := (s_up (s_up (s_up (s_up (s_up ((mLy (s_up S 25 0 0) sh a b).1) 38 0 t) 25 16 (((s_up ((mLy (s_up S 25 0 0) sh a b).1) 38 0 t) 25 16) + 1)) 37 ((s_up (s_up ((mLy (s_up S 25 0 0) sh a b).1) 38 0 t) 25 16 (((s_up ((mLy (s_up S 25 0 0) sh a b).1) 38 0 t) 25 16) + 1)) 25 16).toNat sh) 38 ((s_up (s_up (s_up ((mLy (s_up S 25 0 0) sh a b).1) 38 0 t) 25 16 (((s_up ((mLy (s_up S 25 0 0) sh a b).1) 38 0 t) 25 16) + 1)) 37 ((s_up (s_up ((mLy (s_up S 25 0 0) sh a b).1) 38 0 t) 25 16 (((s_up ((mLy (s_up S 25 0 0) sh a b).1) 38 0 t) 25 16) + 1)) 25 16).toNat sh) 25 16).toNat t) 39 ((s_up (s_up (s_up (s_up ((mLy (s_up S 25 0 0) sh a b).1) 38 0 t) 25 16 (((s_up ((mLy (s_up S 25 0 0) sh a b).1) 38 0 t) 25 16) + 1)) 37 ((s_up (s_up ((mLy (s_up S 25 0 0) sh a b).1) 38 0 t) 25 16 (((s_up ((mLy (s_up S 25 0 0) sh a b).1) 38 0 t) 25 16) + 1)) 25 16).toNat sh) 38 ((s_up (s_up (s_up ((mLy (s_up S 25 0 0) sh a b).1) 38 0 t) 25 16 (((s_up ((mLy (s_up S 25 0 0) sh a b).1) 38 0 t) 25 16) + 1)) 37 ((s_up (s_up ((mLy (s_up S 25 0 0) sh a b).1) 38 0 t) 25 16 (((s_up ((mLy (s_up S 25 0 0) sh a b).1) 38 0 t) 25 16) + 1)) 25 16).toNat sh) 25 16).toNat t) 25 16).toNat 1) 40 0) hI_21 (by omega) (show _ ≤ 7 from by omega)
          have h40 := iv_40 (show Inv (mAkU (s_up S 25 0 0) sh a b t) from hIU) 0
          have hq : mG5 (mAkU (s_up S 25 0 0) sh a b t) sh t = (s_up (s_up (s_up (s_up (s_up (s_up ((mLy (s_up S 25 0 0) sh a b).1) 38 0 t) 25 16 (((s_up ((mLy (s_up S 25 0 0) sh a b).1) 38 0 t) 25 16) + 1)) 37 ((s_up (s_up ((mLy (s_up S 25 0 0) sh a b).1) 38 0 t) 25 16 (((s_up ((mLy (s_up S 25 0 0) sh a b).1) 38 0 t) 25 16) + 1)) 25 16).toNat sh) 38 ((s_up (s_up (s_up ((mLy (s_up S 25 0 0) sh a b).1) 38 0 t) 25 16 (((s_up ((mLy (s_up S 25 0 0) sh a b).1) 38 0 t) 25 16) + 1)) 37 ((s_up (s_up ((mLy (s_up S 25 0 0) sh a b).1) 38 0 t) 25 16 (((s_up ((mLy (s_up S 25 0 0) sh a b).1) 38 0 t) 25 16) + 1)) 25 16).toNat sh) 25 16).toNat t) 39 ((s_up (s_up (s_up (s_up ((mLy (s_up S 25 0 0) sh a b).1) 38 0 t) 25 16 (((s_up ((mLy (s_up S 25 0 0) sh a b).1) 38 0 t) 25 16) + 1)) 37 ((s_up (s_up ((mLy (s_up S 25 0 0) sh a b).1) 38 0 t) 25 16 (((s_up ((mLy (s_up S 25 0 0) sh a b).1) 38 0 t) 25 16) + 1)) 25 16).toNat sh) 38 ((s_up (s_up (s_up ((mLy (s_up S 25 0 0) sh a b).1) 38 0 t) 25 16 (((s_up ((mLy (s_up S 25 0 0) sh a b).1) 38 0 t) 25 16) + 1)) 37 ((s_up (s_up ((mLy (s_up S 25 0 0) sh a b).1) 38 0 t) 25 16 (((s_up ((mLy (s_up S 25 0 0) sh a b).1) 38 0 t) 25 16) + 1)) 25 16).toNat sh) 25 16).toNat t) 25 16).toNat 1) 40 ((s_up (s_up (s_up (s_up (s_up ((mLy (s_up S 25 0 0) sh a b).1) 38 0 t) 25 16 (((s_up ((mLy (s_up S 25 0 0) sh a b).1) 38 0 t) 25 16) + 1)) 37 ((s_up (s_up ((mLy (s_up S 25 0 0) sh a b).1) 38 0 t) 25 16 (((s_up ((mLy (s_up S 25 0 0) sh a b).1) 38 0 t) 25 16) + 1)) 25 16).toNat sh) 38 ((s_up (s_up (s_up ((mLy (s_up S 25 0 0) sh a b).1) 38 0 t) 25 16 (((s_up ((mLy (s_up S 25 0 0) sh a b).1) 38 0 t) 25 16) + 1)) 37 ((s_up (s_up ((mLy (s_up S 25 0 0) sh a b).1) 38 0 t) 25 16 (((s_up ((mLy (s_up S 25 0 0) sh a b).1) 38 0 t) 25 16) + 1)) 25 16).toNat sh) 25 16).toNat t) 39 ((s_up (s_up (s_up (s_up ((mLy (s_up S 25 0 0) sh a b).1) 38 0 t) 25 16 (((s_up ((mLy (s_up S 25 0 0) sh a b).1) 38 0 t) 25 16) + 1)) 37 ((s_up (s_up ((mLy (s_up S 25 0 0) sh a b).1) 38 0 t) 25 16 (((s_up ((mLy (s_up S 25 0 0) sh a b).1) 38 0 t) 25 16) + 1)) 25 16).toNat sh) 38 ((s_up (s_up (s_up ((mLy (s_up S 25 0 0) sh a b).1) 38 0 t) 25 16 (((s_up ((mLy (s_up S 25 0 0) sh a b).1) 38 0 t) 25 16) + 1)) 37 ((s_up (s_up ((mLy (s_up S 25 0 0) sh a b).1) 38 0 t) 25 16 (((s_up ((mLy (s_up S 25 0 0) sh a b).1) 38 0 t) 25 16) + 1)) 25 16).toNat sh) 25 16).toNat t) 25 16).toNat 1) 25 16).toNat ((s_up (s_up (s_up (s_up (s_up ((mLy (s_up S 25 0 0) sh a b).1) 38 0 t) 25 16 (((s_up ((mLy (s_up S 25 0 0) sh a b).1) 38 0 t) 25 16) + 1)) 37 ((s_up (s_up ((mLy (s_up S 25 0 0) sh a b).1) 38 0 t) 25 16 (((s_up ((mLy (s_up S 25 0 0) sh a b).1) 38 0 t) 25 16) + 1)) 25 16).toNat sh) 38 ((s_up (s_up (s_up ((mLy (s_up S 25 0 0) sh a b).1) 38 0 t) 25 16 (((s_up ((mLy (s_up S 25 0 0) sh a b).1) 38 0 t) 25 16) + 1)) 37 ((s_up (s_up ((mLy (s_up S 25 0 0) sh a b).1) 38 0 t) 25 16 (((s_up ((mLy (s_up S 25 0 0) sh a b).1) 38 0 t) 25 16) + 1)) 25 16).toNat sh) 25 16).toNat t) 39 ((s_up (s_up (s_up (s_up ((mLy (s_up S 25 0 0) sh a b).1) 38 0 t) 25 16 (((s_up ((mLy (s_up S 25 0 0) sh a b).1) 38 0 t) 25 16) + 1)) 37 ((s_up (s_up ((mLy (s_up S 25 0 0) sh a b).1) 38 0 t) 25 16 (((s_up ((mLy (s_up S 25 0 0) sh a b).1) 38 0 t) 25 16) + 1)) 25 16).toNat sh) 38 ((s_up (s_up (s_up ((mLy (s_up S 25 0 0) sh a b).1) 38 0 t) 25 16 (((s_up ((mLy (s_up S 25 0 0) sh a b).1) 38 0 t) 25 16) + 1)) 37 ((s_up (s_up ((mLy (s_up S 25 0 0) sh a b).1) 38 0 t) 25 16 (((s_up ((mLy (s_up S 25 0 0) sh a b).1) 38 0 t) 25 16) + 1)) 25 16).toNat sh) 25 16).toNat t) 25 16).toNat 1) 40 0)) := (by unfold mG5 mAkU; simp [s_up_at])
          have hqI : Inv (mG5 (mAkU (s_up S 25 0 0) sh a b t) sh t) := mG5_I (U := mAkU (s_up S 25 0 0) sh a b t) hIU (by omega) (by omega) (by rw [uA]; omega)
          refine lv_iconst (v := iI 0) hC.1 hC.2.1 d_md_ask_132 rfl ?_
          refine lv_istore (lv' := [(6, .int (iI (0))), (5, .int (iI (mAg (s_up ((mLy (s_up S 25 0 0) sh a b).1) 38 0 t) 0 0 0 ((s_up ((mLy (s_up S 25 0 0) sh a b).1) 38 0 t) 40 (0 : Int).toNat).toNat))), (0, .ref (G.2.1 25)), (1, .int (iI (sh))), (2, .int (iI (a))), (3, .int (iI (b))), (4, .int (iI (t)))]) hC.1 hC.2.1 d_md_ask_133 hl (by decide) rfl (fun ls hl => ?_)
          have loop_135 : ∀ (nn : Nat) (n : Nat) (x6 : Int), (mAkU (s_up S 25 0 0) sh a b t 40 0).toNat - n < nn → x6 = (n : Int) → (n : Int) ≤ (mAkU (s_up S 25 0 0) sh a b t) 40 0 → ∀ (H : Heap) (locs : List Loc) (ls : Array Slot), wh G (mCp (mAkU (s_up S 25 0 0) sh a b t) sh t n) s H locs → lv_has ls 7 [(6, .int (iI (x6))), (5, .int (iI (mAg (s_up ((mLy (s_up S 25 0 0) sh a b).1) 38 0 t) 0 0 0 ((s_up ((mLy (s_up S 25 0 0) sh a b).1) 38 0 t) 40 (0 : Int).toNat).toNat))), (0, .ref (G.2.1 25)), (1, .int (iI (sh))), (2, .int (iI (a))), (3, .int (iI (b))), (4, .int (iI (t)))] → W p l e { frames := 6, cells := 0, slots := 0, locals := 150 } s m ([.ref (G.2.1 25), .int (iI (sh)), .int (iI (a)), .int (iI (b)), .int (iI (t))] : List Value).toArray below meth c H locs 0 0 (MQ below (qW G (if kmA S sh a b t = 0 then mAkS (s_up S 25 0 0) sh a b t else s_up S 25 0 (kmA S sh a b t)) (if kmA S sh a b t = 0 then mAkR (s_up S 25 0 0) sh a b t else 0)) ([.ref (G.2.1 25), .int (iI (sh)), .int (iI (a)), .int (iI (b)), .int (iI (t))] : List Value).toArray s 0 0 (gA G)) (F0 m 135 ls []) := by
            intro nn
            induction nn with
            | zero => intros; omega
            | succ nn ih_135 =>
              intro n x6 hms_135 hx6 hv0 H locs ls hw hl
              have e2 := mCp_25 (mAkU (s_up S 25 0 0) sh a b t) sh t n
              have e4 := mCp_40 (mAkU (s_up S 25 0 0) sh a b t) sh t n (by rw [uA]; omega)
              refine lv_iload hC.1 hC.2.1 d_md_ask_135 (lv_at hl 0 rfl) ?_
              refine lv_aload_n hC.1 hC.2.1 d_md_ask_137 rfl (lv_at hl 2 rfl) ?_
              refine gf_md_53 hC hw d_md_ask_138 ?_
              refine lv_iconst (v := iI 0) hC.1 hC.2.1 d_md_ask_141 rfl ?_
              refine lc_40 0 hC hw (by decide) d_md_ask_142 ?_
              have b_27 := iv_40 (mCp_I hqI n) 0
              have z_28 : (mCp (mAkU (s_up S 25 0 0) sh a b t) sh t n) 40 0 = (mCp (mAkU (s_up S 25 0 0) sh a b t) sh t n) 40 0 := rfl
              conv at z_28 => rhs; (try simp [s_up_at])
              refine ir_ge (tgt := 196) hC.1 hC.2.1 d_md_ask_143 (by decide) ⟨by omega, by omega⟩ ⟨by omega, by omega⟩ (fun c_29 => ?_) (fun c_29 => ?_)
              · skip
                refine lv_aload_n hC.1 hC.2.1 d_md_ask_196 rfl (lv_at hl 2 rfl) ?_
                refine gf_md_75 hC hw d_md_ask_197 ?_
                have b_30 := iv_25k (mCp_I hqI n)
                have z_31 : (mCp (mAkU (s_up S 25 0 0) sh a b t) sh t n) 25 16 = (mCp (mAkU (s_up S 25 0 0) sh a b t) sh t n) 25 16 := rfl
                conv at z_31 => rhs; (try simp [s_up_at])
                have hk_32 : kmA S sh a b t = 0 := (by first | (simp [kmA, c_1, c_4, c_6, c_9, c_29]; done) | (simp [kmA, c_1, c_4, c_6, c_9, c_29]; omega) | (simp [kmA, c_1, c_4, c_6, c_9, c_29]; done) | (simp [kmA, c_1, c_4, c_6, c_9, c_29]; omega) | (simp [kmA, c_1, c_6]; done) | (simp [kmA, c_1, c_6]; omega) | omega)
                exact rt_W hC hr hlk hw (by rw [if_pos hk_32] <;> (unfold mAkR; rw [if_neg (by simp [c_1, c_6]), if_neg (by omega)]; exact e2)) (by rw [if_pos hk_32] <;> (unfold mAkS; rw [if_neg (by simp [c_1, c_6]), if_neg (by omega), show (mAkU (s_up S 25 0 0) sh a b t 40 0).toNat = n by omega])) d_md_ask_200
              · skip
                refine lv_aload_n hC.1 hC.2.1 d_md_ask_146 rfl (lv_at hl 2 rfl) ?_
                refine gf_md_56 hC hw d_md_ask_147 ?_
                refine lv_bipush (v := iI 8) hC.1 hC.2.1 d_md_ask_150 (by decide +kernel) ?_
                refine lv_aload_n hC.1 hC.2.1 d_md_ask_152 rfl (lv_at hl 2 rfl) ?_
                refine gf_md_75 hC hw d_md_ask_153 ?_
                have b_33 := iv_25k (mCp_I hqI n)
                have z_34 : (mCp (mAkU (s_up S 25 0 0) sh a b t) sh t n) 25 16 = (mCp (mAkU (s_up S 25 0 0) sh a b t) sh t n) 25 16 := rfl
                conv at z_34 => rhs; (try simp [s_up_at])
                refine ir_mul hC.1 hC.2.1 d_md_ask_156 ?_
                refine lv_iload hC.1 hC.2.1 d_md_ask_157 (lv_at hl 0 rfl) ?_
                refine ir_add hC.1 hC.2.1 d_md_ask_159 ?_
                refine lv_aload_n hC.1 hC.2.1 d_md_ask_160 rfl (lv_at hl 2 rfl) ?_
                refine gf_md_56 hC hw d_md_ask_161 ?_
                refine lv_iload hC.1 hC.2.1 d_md_ask_164 (lv_at hl 0 rfl) ?_
                refine ld_41 hC hw (by omega) (by omega) d_md_ask_166 ?_
                have b_35 := iv_41 (mCp_I hqI n) x6.toNat
                have z_36 : (mCp (mAkU (s_up S 25 0 0) sh a b t) sh t n) 41 x6.toNat = (mCp (mAkU (s_up S 25 0 0) sh a b t) sh t n) 41 x6.toNat := rfl
                conv at z_36 => rhs; (try simp [s_up_at])
                refine st_41 (x := (mCp (mAkU (s_up S 25 0 0) sh a b t) sh t n) 41 x6.toNat) (z := (8 * ((mCp (mAkU (s_up S 25 0 0) sh a b t) sh t n) 25 16)) + x6) hC hw (by omega) (by omega) d_md_ask_167 (fun H locs hw => ?_)
                have hI_37 := Inv.up (q := 41) (i := ((8 * ((mCp (mAkU (s_up S 25 0 0) sh a b t) sh t n) 25 16)) + x6).toNat) (x := (mCp (mAkU (s_up S 25 0 0) sh a b t) sh t n) 41 x6.toNat) (mCp_I hqI n) (by omega) (show _ ≤ 11 from by omega)
                refine lv_aload_n hC.1 hC.2.1 d_md_ask_168 rfl (lv_at hl 2 rfl) ?_
                refine gf_md_59 hC hw d_md_ask_169 ?_
                refine lv_bipush (v := iI 8) hC.1 hC.2.1 d_md_ask_172 (by decide +kernel) ?_
                refine lv_aload_n hC.1 hC.2.1 d_md_ask_174 rfl (lv_at hl 2 rfl) ?_
                refine gf_md_75 hC hw d_md_ask_175 ?_
                have b_38 := iv_25k hI_37
                have z_39 : (s_up (mCp (mAkU (s_up S 25 0 0) sh a b t) sh t n) 41 ((8 * ((mCp (mAkU (s_up S 25 0 0) sh a b t) sh t n) 25 16)) + x6).toNat ((mCp (mAkU (s_up S 25 0 0) sh a b t) sh t n) 41 x6.toNat)) 25 16 = (s_up (mCp (mAkU (s_up S 25 0 0) sh a b t) sh t n) 41 ((8 * ((mCp (mAkU (s_up S 25 0 0) sh a b t) sh t n) 25 16)) + x6).toNat ((mCp (mAkU (s_up S 25 0 0) sh a b t) sh t n) 41 x6.toNat)) 25 16 := rfl
                conv at z_39 => rhs; (try simp [s_up_at])
                refine ir_mul hC.1 hC.2.1 d_md_ask_178 ?_
                refine lv_iload hC.1 hC.2.1 d_md_ask_179 (lv_at hl 0 rfl) ?_
                refine ir_add hC.1 hC.2.1 d_md_ask_181 ?_
                refine lv_aload_n hC.1 hC.2.1 d_md_ask_182 rfl (lv_at hl 2 rfl) ?_
                refine gf_md_59 hC hw d_md_ask_183 ?_
                refine lv_iload hC.1 hC.2.1 d_md_ask_186 (lv_at hl 0 rfl) ?_
                refine ld_42 hC hw (by omega) (by omega) d_md_ask_188 ?_
                have b_40 := iv_42 hI_37 x6.toNat
                have z_41 : (s_up (mCp (mAkU (s_up S 25 0 0) sh a b t) sh t n) 41 ((8 * ((mCp (mAkU (s_up S 25 0 0) sh a b t) sh t n) 25 16)) + x6).toNat ((mCp (mAkU (s_up S 25 0 0) sh a b t) sh t n) 41 x6.toNat)) 42 x6.toNat = (s_up (mCp (mAkU (s_up S 25 0 0) sh a b t) sh t n) 41 ((8 * ((mCp (mAkU (s_up S 25 0 0) sh a b t) sh t n) 25 16)) + x6).toNat ((mCp (mAkU (s_up S 25 0 0) sh a b t) sh t n) 41 x6.toNat)) 42 x6.toNat := rfl
                conv at z_41 => rhs; (try simp [s_up_at])
                refine st_42 (x := (s_up (mCp (mAkU (s_up S 25 0 0) sh a b t) sh t n) 41 ((8 * ((mCp (mAkU (s_up S 25 0 0) sh a b t) sh t n) 25 16)) + x6).toNat ((mCp (mAkU (s_up S 25 0 0) sh a b t) sh t n) 41 x6.toNat)) 42 x6.toNat) (z := (8 * ((s_up (mCp (mAkU (s_up S 25 0 0) sh a b t) sh t n) 41 ((8 * ((mCp (mAkU (s_up S 25 0 0) sh a b t) sh t n) 25 16)) + x6).toNat ((mCp (mAkU (s_up S 25 0 0) sh a b t) sh t n) 41 x6.toNat)) 25 16)) + x6) hC hw (by omega) (by omega) d_md_ask_189 (fun H locs hw => ?_)
                have hI_42 := Inv.up (q := 42) (i := ((8 * ((s_up (mCp (mAkU (s_up S 25 0 0) sh a b t) sh t n) 41 ((8 * ((mCp (mAkU (s_up S 25 0 0) sh a b t) sh t n) 25 16)) + x6).toNat ((mCp (mAkU (s_up S 25 0 0) sh a b t) sh t n) 41 x6.toNat)) 25 16)) + x6).toNat) (x := (s_up (mCp (mAkU (s_up S 25 0 0) sh a b t) sh t n) 41 ((8 * ((mCp (mAkU (s_up S 25 0 0) sh a b t) sh t n) 25 16)) + x6).toNat ((mCp (mAkU (s_up S 25 0 0) sh a b t) sh t n) 41 x6.toNat)) 42 x6.toNat) hI_37 (by omega) (show _ ≤ 1 from by omega)
                refine lv_iinc (v := iI (x6 + 1)) (lv' := [(6, .int (iI (x6 + 1))), (5, .int (iI (mAg (s_up ((mLy (s_up S 25 0 0) sh a b).1) 38 0 t) 0 0 0 ((s_up ((mLy (s_up S 25 0 0) sh a b).1) 38 0 t) 40 (0 : Int).toNat).toNat))), (0, .ref (G.2.1 25)), (1, .int (iI (sh))), (2, .int (iI (a))), (3, .int (iI (b))), (4, .int (iI (t)))]) hC.1 hC.2.1 d_md_ask_190 hl (k := 0) rfl (iI_add _ _) (by decide) rfl (fun ls hl => ?_)
                refine lv_goto (tgt := 135) hC.1 hC.2.1 d_md_ask_193 (by decide) ?_
                exact ih_135 (n + 1) _ (by omega) (by first | rfl | omega) (by omega) _ _ _ (by rw [mCp_s]; simpa [s_up_at, e2, ← hx6] using hw) (lv_sub hl [0, 1, 2, 3, 4, 5, 6] rfl)
          exact loop_135 _ 0 _ (Nat.lt_succ_self _) (by first | rfl | omega) (by omega) _ _ _ (by rw [← hq] at hw; exact hw) (lv_sub hl [0, 1, 2, 3, 4, 5, 6] rfl)
        · skip
          refine lv_iconst (v := iI (-1)) hC.1 hC.2.1 d_md_ask_71 rfl ?_
          refine lv_iload hC.1 hC.2.1 d_md_ask_72 (lv_at hl 0 rfl) ?_
          refine ir_sub hC.1 hC.2.1 d_md_ask_74 ?_
          have hk_43 : kmA S sh a b t = 0 := (by first | (simp [kmA, c_1, c_4, c_6, c_9]; done) | (simp [kmA, c_1, c_4, c_6, c_9]; omega) | (simp [kmA, c_1, c_4, c_6, c_9]; done) | (simp [kmA, c_1, c_4, c_6, c_9]; omega) | (simp [kmA, c_1, c_6]; done) | (simp [kmA, c_1, c_6]; omega) | omega)
          exact rt_W hC hr hlk hw (by rw [if_pos hk_43] <;> (unfold mAkR; rw [if_neg (by simp [c_1, c_6]), if_pos (by omega)] <;> rfl)) (by rw [if_pos hk_43] <;> (unfold mAkS; rw [if_neg (by simp [c_1, c_6]), if_pos (by omega)] <;> rfl)) d_md_ask_75
      · skip
        refine lv_iconst (v := iI 0) hC.1 hC.2.1 d_md_ask_48 rfl ?_
        have hk_44 : kmA S sh a b t = 0 := (by first | (simp [kmA, c_1, c_4, c_6]; done) | (simp [kmA, c_1, c_4, c_6]; omega) | (simp [kmA, c_1, c_4, c_6]; done) | (simp [kmA, c_1, c_4, c_6]; omega) | (simp [kmA, c_1, c_6]; done) | (simp [kmA, c_1, c_6]; omega) | omega)
        exact rt_W hC hr hlk hw (by rw [if_pos hk_44] <;> (unfold mAkR; rw [if_pos (by assumption)])) (by rw [if_pos hk_44] <;> (unfold mAkS; rw [if_pos (by assumption)])) d_md_ask_49
    · skip
      refine lv_aload_n hC.1 hC.2.1 d_md_ask_27 rfl (lv_at hl 0 rfl) ?_
      refine lv_iconst (v := iI 2) hC.1 hC.2.1 d_md_ask_28 rfl ?_
      refine go_W (ca_V (As := [.int (iI (2))]) (rest := []) hC hw (c_md_fails l G S 2 (by omega)) (cv_md_90 hC rfl rfl (Nat.le_of_ble_eq_true rfl) (Nat.le_of_ble_eq_true rfl)) (by decide) rfl rfl rfl hl.1 rfl (Nat.le_of_ble_eq_true rfl) d_md_ask_29 ⟨Nat.le_of_ble_eq_true rfl, Nat.le_of_ble_eq_true rfl⟩) hw (fun H locs hw => ?_)
      have hk_45 : kmA S sh a b t = 2 := (by first | (simp [kmA, c_1, c_4]; done) | (simp [kmA, c_1, c_4]; omega) | (simp [kmA, c_1, c_4]; done) | (simp [kmA, c_1, c_4]; omega) | (simp [kmA, c_1]; done) | (simp [kmA, c_1]; omega) | omega)
      exact rt_W hC hr hlk hw (by rw [if_neg (by omega)]) (by rw [if_neg (by omega), hk_45]) d_md_ask_32
  · skip
    refine lv_aload_n hC.1 hC.2.1 d_md_ask_12 rfl (lv_at hl 0 rfl) ?_
    refine lv_iconst (v := iI 1) hC.1 hC.2.1 d_md_ask_13 rfl ?_
    refine go_W (ca_V (As := [.int (iI (1))]) (rest := []) hC hw (c_md_fails l G S 1 (by omega)) (cv_md_90 hC rfl rfl (Nat.le_of_ble_eq_true rfl) (Nat.le_of_ble_eq_true rfl)) (by decide) rfl rfl rfl hl.1 rfl (Nat.le_of_ble_eq_true rfl) d_md_ask_14 ⟨Nat.le_of_ble_eq_true rfl, Nat.le_of_ble_eq_true rfl⟩) hw (fun H locs hw => ?_)
    have hk_46 : kmA S sh a b t = 1 := (by first | (simp [kmA, c_1]; done) | (simp [kmA, c_1]; omega) | (simp [kmA, c_1]; done) | (simp [kmA, c_1]; omega) | (simp [kmA, c_1]; done) | (simp [kmA, c_1]; omega) | omega)
    exact rt_W hC hr hlk hw (by rw [if_neg (by omega)]) (by rw [if_neg (by omega), hk_46]) d_md_ask_17
set_option maxHeartbeats 4000000 in
set_option maxRecDepth 100000 in
theorem c_md_earliest (l : Launch) (G : Gt) (S : St) (sh : Int) (a : Int) (b : Int) (t : Int) (hI : Inv S) (hsh : i32 sh) (ha : i32 a) (hb : i32 b) (ht : i32 t) (hsp2 : ∀ j : Nat, (j : Int) < S 25 10 → 1 ≤ S 35 j) (hle : ∀ j : Nat, (j : Int) < S 25 1 → 1 ≤ S 28 j) (hso : ∀ j : Nat, 0 < S 40 j → 1 ≤ S 35 (S 37 j).toNat) : Met l y_md_earliest [.code y_md_earliest b_md_earliest 6 (some .int)] { frames := 6, cells := 0, slots := 0, locals := 150 } (va_Pc [.ref (G.2.1 25), .int (iI (sh)), .int (iI (a)), .int (iI (b)), .int (iI (t))] (fun U => wu G S U)) (qW G (if kmE S sh a b t = 0 then (mEp (s_up S 25 0 0) sh a b t).1 else s_up S 25 0 (kmE S sh a b t)) (if kmE S sh a b t = 0 then (mEp (s_up S 25 0 0) sh a b t).2 else 0)) 0 0 (gA G) := by
  refine mt_of (by decide +kernel) (Nat.le_of_ble_eq_true rfl) ?_
  intro p e s m below meth c ls hadm hC hr hlk hex hw hl
  have hC : CallFix p m c b_md_earliest 6 s _ tws "ChannelRulesModel" := hC
  have hl : lv_has ls 6 [(0, .ref (G.2.1 25)), (1, .int (iI (sh))), (2, .int (iI (a))), (3, .int (iI (b))), (4, .int (iI (t)))] := hl
  have i15 := iv_25 hI 15
  refine lv_aload_n hC.1 hC.2.1 d_md_earliest_0 rfl (lv_at hl 0 rfl) ?_
  refine lv_iload_n hC.1 hC.2.1 d_md_earliest_1 rfl (lv_at hl 1 rfl) ?_
  refine lv_iload_n hC.1 hC.2.1 d_md_earliest_2 rfl (lv_at hl 2 rfl) ?_
  refine lv_iload_n hC.1 hC.2.1 d_md_earliest_3 rfl (lv_at hl 3 rfl) ?_
  refine lv_iload hC.1 hC.2.1 d_md_earliest_4 (lv_at hl 4 rfl) ?_
  refine go_R (ca_V (As := [.int (iI (sh)), .int (iI (a)), .int (iI (b)), .int (iI (t))]) (rest := []) hC hw (c_md_isPassage l G S sh a b t hI (by omega) (by omega) (by omega) (by omega)) (cv_md_143 hC rfl rfl (Nat.le_of_ble_eq_true rfl) (Nat.le_of_ble_eq_true rfl)) (by decide) rfl rfl rfl hl.1 rfl (Nat.le_of_ble_eq_true rfl) d_md_earliest_6 ⟨Nat.le_of_ble_eq_true rfl, Nat.le_of_ble_eq_true rfl⟩) ?_
  refine ir_bne (tgt := 18) hC d_md_earliest_9 (by decide) (fun c_1 => ?_) (fun c_1 => ?_)
  · skip
    have w_2 := mPs_t c_1
    refine lv_aload_n hC.1 hC.2.1 d_md_earliest_18 rfl (lv_at hl 0 rfl) ?_
    refine lv_iconst (v := iI 0) hC.1 hC.2.1 d_md_earliest_19 rfl ?_
    refine pf_md_65 (x := 0) hC hw d_md_earliest_20 (fun H locs hw => ?_)
    have hI_3 := Inv.up (q := 25) (i := 0) (x := 0) hI (by omega) (show _ ≤ 2 from by omega)
    have hs1 : 1 ≤ (s_up S 25 0 0) 35 sh.toNat := by simpa [s_up_cell] using hsp2 sh.toNat (by omega)
    have hle1 : ∀ j : Nat, (j : Int) < (s_up S 25 0 0) 25 1 → 1 ≤ (s_up S 25 0 0) 28 j := by simpa [s_up_at] using hle
    have b10 := iv_25s hI
    have hsoT : ∀ j : Nat, 0 < (s_up S 25 0 0) 40 j → 1 ≤ (s_up S 25 0 0) 35 ((s_up S 25 0 0) 37 j).toNat := by simpa [s_up_cell] using hso
    refine lv_aload_n hC.1 hC.2.1 d_md_earliest_23 rfl (lv_at hl 0 rfl) ?_
    refine lv_iload_n hC.1 hC.2.1 d_md_earliest_24 rfl (lv_at hl 1 rfl) ?_
    refine lv_iload_n hC.1 hC.2.1 d_md_earliest_25 rfl (lv_at hl 2 rfl) ?_
    refine lv_iload_n hC.1 hC.2.1 d_md_earliest_26 rfl (lv_at hl 3 rfl) ?_
    refine go_W (ca_V (As := [.int (iI (sh)), .int (iI (a)), .int (iI (b))]) (rest := []) hC hw (c_md_lays l G (s_up S 25 0 0) sh a b hI_3 (by omega) (by omega) (by omega) (by omega) (by assumption)) (cv_md_116 hC rfl rfl (Nat.le_of_ble_eq_true rfl) (Nat.le_of_ble_eq_true rfl)) (by decide) rfl rfl rfl hl.1 rfl (Nat.le_of_ble_eq_true rfl) d_md_earliest_27 ⟨Nat.le_of_ble_eq_true rfl, Nat.le_of_ble_eq_true rfl⟩) hw (fun H locs hw => ?_)
    refine ir_bne (tgt := 35) hC d_md_earliest_30 (by decide) (fun c_4 => ?_) (fun c_4 => ?_)
    · skip
      have hsoL : ∀ j : Nat, 0 < ((mLy (s_up S 25 0 0) sh a b).1) 40 j → 1 ≤ ((mLy (s_up S 25 0 0) sh a b).1) 35 (((mLy (s_up S 25 0 0) sh a b).1) 37 j).toNat := mLy_so a b hs1 hsoT
      refine lv_iload hC.1 hC.2.1 d_md_earliest_35 (lv_at hl 4 rfl) ?_
      refine lv_istore (lv' := [(5, .int (iI (t))), (0, .ref (G.2.1 25)), (1, .int (iI (sh))), (2, .int (iI (a))), (3, .int (iI (b))), (4, .int (iI (t)))]) hC.1 hC.2.1 d_md_earliest_37 hl (by decide) rfl (fun ls hl => ?_)
      have loop_39 : ∀ (nn : Nat) (f : Nat) (T : St) (x5 : Int), (t + 2880 - x5 + 1).toNat < nn → t ≤ x5 ∧ x5 ≤ 2000000 → Inv T → t + 2880 - x5 + 1 < (f : Int) → (∀ j : Nat, 0 < T 40 j → 1 ≤ T 35 (T 37 j).toNat) → mEp (s_up S 25 0 0) sh a b t = mEl t f T x5 → ∀ (H : Heap) (locs : List Loc) (ls : Array Slot), wh G (T) s H locs → lv_has ls 6 [(5, .int (iI (x5))), (0, .ref (G.2.1 25)), (1, .int (iI (sh))), (2, .int (iI (a))), (3, .int (iI (b))), (4, .int (iI (t)))] → W p l e { frames := 6, cells := 0, slots := 0, locals := 150 } s m ([.ref (G.2.1 25), .int (iI (sh)), .int (iI (a)), .int (iI (b)), .int (iI (t))] : List Value).toArray below meth c H locs 0 0 (MQ below (qW G (if kmE S sh a b t = 0 then (mEp (s_up S 25 0 0) sh a b t).1 else s_up S 25 0 (kmE S sh a b t)) (if kmE S sh a b t = 0 then (mEp (s_up S 25 0 0) sh a b t).2 else 0)) ([.ref (G.2.1 25), .int (iI (sh)), .int (iI (a)), .int (iI (b)), .int (iI (t))] : List Value).toArray s 0 0 (gA G)) (F0 m 39 ls []) := by
        intro nn
        induction nn with
        | zero => intros; omega
        | succ nn ih_39 =>
          intro f T x5 hms_39  hv0 hv1 hv2 hv3 hv4 H locs ls hw hl
          refine lv_iload hC.1 hC.2.1 d_md_earliest_39 (lv_at hl 0 rfl) ?_
          refine lv_iload hC.1 hC.2.1 d_md_earliest_41 (lv_at hl 5 rfl) ?_
          refine lv_sipush (v := iI 2880) hC.1 hC.2.1 d_md_earliest_43 (by decide +kernel) ?_
          refine ir_add hC.1 hC.2.1 d_md_earliest_46 ?_
          refine ir_gt (tgt := 83) hC.1 hC.2.1 d_md_earliest_47 (by decide) ⟨by omega, by omega⟩ ⟨by omega, by omega⟩ (fun c_5 => ?_) (fun c_5 => ?_)
          · skip
            refine lv_iconst (v := iI (-1)) hC.1 hC.2.1 d_md_earliest_83 rfl ?_
            have hk_6 : kmE S sh a b t = 0 := (by first | (simp [kmE, c_1, c_4, c_5]; done) | (simp [kmE, c_1, c_4, c_5]; omega) | (simp [kmE, c_1, c_4, c_5]; done) | (simp [kmE, c_1, c_4, c_5]; omega) | (simp [kmE, c_1, c_4]; done) | (simp [kmE, c_1, c_4]; omega) | omega)
            exact rt_W hC hr hlk hw (by rw [if_pos hk_6] <;> (rw [hv4, mEl_x t f T x5 (by omega)])) (by rw [if_pos hk_6] <;> (rw [hv4, mEl_x t f T x5 (by omega)])) d_md_earliest_84
          · skip
            refine lv_iload hC.1 hC.2.1 d_md_earliest_50 (lv_at hl 0 rfl) ?_
            refine ir_ldc hC 100000 tw_700 (by decide +kernel) d_md_earliest_52 ?_
            refine ir_gt (tgt := 83) hC.1 hC.2.1 d_md_earliest_54 (by decide) ⟨by omega, by omega⟩ (by decide) (fun c_7 => ?_) (fun c_7 => ?_)
            · skip
              refine lv_iconst (v := iI (-1)) hC.1 hC.2.1 d_md_earliest_83 rfl ?_
              have hk_8 : kmE S sh a b t = 0 := (by first | (simp [kmE, c_1, c_4, c_5, c_7]; done) | (simp [kmE, c_1, c_4, c_5, c_7]; omega) | (simp [kmE, c_1, c_4, c_5, c_7]; done) | (simp [kmE, c_1, c_4, c_5, c_7]; omega) | (simp [kmE, c_1, c_4]; done) | (simp [kmE, c_1, c_4]; omega) | omega)
              exact rt_W hC hr hlk hw (by rw [if_pos hk_8] <;> (rw [hv4, mEl_x t f T x5 (by omega)])) (by rw [if_pos hk_8] <;> (rw [hv4, mEl_x t f T x5 (by omega)])) d_md_earliest_84
            · skip
              refine lv_aload_n hC.1 hC.2.1 d_md_earliest_57 rfl (lv_at hl 1 rfl) ?_
              refine gf_md_46 hC hw d_md_earliest_58 ?_
              refine lv_iconst (v := iI 0) hC.1 hC.2.1 d_md_earliest_61 rfl ?_
              refine lv_iload hC.1 hC.2.1 d_md_earliest_62 (lv_at hl 0 rfl) ?_
              refine sc_38 0 (x := x5) hC hw (by decide) d_md_earliest_64 (fun H locs hw => ?_)
              have hI_9 := Inv.up (q := 38) (i := 0) (x := x5) hv1 (by omega) (show _ ≤ 100000 from by omega)
              have hso2 : ∀ j : Nat, 0 < (s_up T 38 0 x5) 40 j → 1 ≤ (s_up T 38 0 x5) 35 ((s_up T 38 0 x5) 37 j).toNat := by simpa [s_up_cell] using hv3
              refine lv_aload_n hC.1 hC.2.1 d_md_earliest_65 rfl (lv_at hl 1 rfl) ?_
              refine lv_iconst (v := iI 0) hC.1 hC.2.1 d_md_earliest_66 rfl ?_
              refine lv_iconst (v := iI 0) hC.1 hC.2.1 d_md_earliest_67 rfl ?_
              refine go_R (ca_V (As := [.int (iI (0)), .int (iI (0))]) (rest := []) hC hw (c_md_against l G (s_up T 38 0 x5) 0 0 hI_9 (by omega) (by omega) (by assumption)) (cv_md_147 hC rfl rfl (Nat.le_of_ble_eq_true rfl) (Nat.le_of_ble_eq_true rfl)) (by decide) rfl rfl rfl hl.1 rfl (Nat.le_of_ble_eq_true rfl) d_md_earliest_68 ⟨Nat.le_of_ble_eq_true rfl, Nat.le_of_ble_eq_true rfl⟩) ?_
              have r_10 := mAg_b (s_up T 38 0 x5) 0 0 0 ((s_up T 38 0 x5) 40 (0 : Int).toNat).toNat
              refine ir_if_ne (tgt := 77) hC.1 hC.2.1 d_md_earliest_71 (by decide) ⟨by omega, by omega⟩ (fun c_11 => ?_) (fun c_11 => ?_)
              · skip
                refine lv_iinc (v := iI (x5 + 1)) (lv' := [(5, .int (iI (x5 + 1))), (0, .ref (G.2.1 25)), (1, .int (iI (sh))), (2, .int (iI (a))), (3, .int (iI (b))), (4, .int (iI (t)))]) hC.1 hC.2.1 d_md_earliest_77 hl (k := 0) rfl (iI_add _ _) (by decide) rfl (fun ls hl => ?_)
                refine lv_goto (tgt := 39) hC.1 hC.2.1 d_md_earliest_80 (by decide) ?_
                exact ih_39 (f - 1) _ _ (by omega)  (by omega) hI_9 (by omega) hso2 (by rw [hv4, mEl_s t f T x5 (by omega), if_pos (by omega), if_neg (by assumption)]) _ _ _ hw (lv_sub hl [0, 1, 2, 3, 4, 5] rfl)
              · skip
                refine lv_iload hC.1 hC.2.1 d_md_earliest_74 (lv_at hl 0 rfl) ?_
                have hk_12 : kmE S sh a b t = 0 := (by first | (simp [kmE, c_1, c_4, c_5, c_7, c_11]; done) | (simp [kmE, c_1, c_4, c_5, c_7, c_11]; omega) | (simp [kmE, c_1, c_4, c_5, c_7, c_11]; done) | (simp [kmE, c_1, c_4, c_5, c_7, c_11]; omega) | (simp [kmE, c_1, c_4]; done) | (simp [kmE, c_1, c_4]; omega) | omega)
                exact rt_W hC hr hlk hw (by rw [if_pos hk_12] <;> (rw [hv4, mEl_s t f T x5 (by omega), if_pos (by omega), if_pos (by assumption)])) (by rw [if_pos hk_12] <;> (rw [hv4, mEl_s t f T x5 (by omega), if_pos (by omega), if_pos (by assumption)])) d_md_earliest_76
      exact loop_39 _ 2882 _ _ (Nat.lt_succ_self _)  (by omega) (mLy_I a hI_3 (show 0 ≤ sh ∧ sh < 12 by omega) (show 0 ≤ a ∧ a ≤ 7 by omega) (show 0 ≤ b ∧ b ≤ 7 by omega) (by first | assumption | (simp [s_up_cell]; assumption)) (by first | assumption | (simp [s_up_cell]; assumption))) (by omega) hsoL (by unfold mEp; rw [if_neg (by simp [c_1, c_4])]) _ _ _ hw (lv_sub hl [0, 1, 2, 3, 4, 5] rfl)
    · skip
      refine lv_iconst (v := iI (-1)) hC.1 hC.2.1 d_md_earliest_33 rfl ?_
      have hk_13 : kmE S sh a b t = 0 := (by first | (simp [kmE, c_1, c_4]; done) | (simp [kmE, c_1, c_4]; omega) | (simp [kmE, c_1, c_4]; done) | (simp [kmE, c_1, c_4]; omega) | (simp [kmE, c_1, c_4]; done) | (simp [kmE, c_1, c_4]; omega) | omega)
      exact rt_W hC hr hlk hw (by rw [if_pos hk_13] <;> (unfold mEp; rw [if_pos (by assumption)])) (by rw [if_pos hk_13] <;> (unfold mEp; rw [if_pos (by assumption)])) d_md_earliest_34
  · skip
    refine lv_aload_n hC.1 hC.2.1 d_md_earliest_12 rfl (lv_at hl 0 rfl) ?_
    refine lv_iconst (v := iI 1) hC.1 hC.2.1 d_md_earliest_13 rfl ?_
    refine go_W (ca_V (As := [.int (iI (1))]) (rest := []) hC hw (c_md_fails l G S 1 (by omega)) (cv_md_90 hC rfl rfl (Nat.le_of_ble_eq_true rfl) (Nat.le_of_ble_eq_true rfl)) (by decide) rfl rfl rfl hl.1 rfl (Nat.le_of_ble_eq_true rfl) d_md_earliest_14 ⟨Nat.le_of_ble_eq_true rfl, Nat.le_of_ble_eq_true rfl⟩) hw (fun H locs hw => ?_)
    have hk_14 : kmE S sh a b t = 1 := (by first | (simp [kmE, c_1]; done) | (simp [kmE, c_1]; omega) | (simp [kmE, c_1]; done) | (simp [kmE, c_1]; omega) | (simp [kmE, c_1]; done) | (simp [kmE, c_1]; omega) | omega)
    exact rt_W hC hr hlk hw (by rw [if_neg (by omega)]) (by rw [if_neg (by omega), hk_14]) d_md_earliest_17
set_option maxHeartbeats 4000000 in
set_option maxRecDepth 100000 in
theorem c_md_close (l : Launch) (G : Gt) (S : St) (q : Int) (a : Int) (b : Int) (hI : Inv S) (hq : i32 q) (ha : i32 a) (hb : i32 b) (hso : ∀ j : Nat, 0 < S 40 j → 1 ≤ S 35 (S 37 j).toNat) : Met l y_md_close [.code y_md_close b_md_close 8 (some .int)] { frames := 3, cells := 0, slots := 0, locals := 68 } (va_Pc [.ref (G.2.1 25), .int (iI (q)), .int (iI (a)), .int (iI (b))] (fun U => wu G S U)) (qW G (if kmX S q a b = 0 then mCs (mSa (s_up S 25 0 0) q a b) q a b (S 25 16).toNat else s_up S 25 0 (kmX S q a b)) (if kmX S q a b = 0 then mCc (mSa (s_up S 25 0 0) q a b) q a b (S 25 16).toNat else 0)) 0 0 (gA G) := by
  refine mt_of (by decide +kernel) (Nat.le_of_ble_eq_true rfl) ?_
  intro p e s m below meth c ls hadm hC hr hlk hex hw hl
  have hC : CallFix p m c b_md_close 8 s _ tws "ChannelRulesModel" := hC
  have hl : lv_has ls 8 [(0, .ref (G.2.1 25)), (1, .int (iI (q))), (2, .int (iI (a))), (3, .int (iI (b)))] := hl
  have i3 := iv_25k hI
  have i15 := iv_25 hI 15
  have i1 := iv_25p hI
  refine lv_aload_n hC.1 hC.2.1 d_md_close_0 rfl (lv_at hl 0 rfl) ?_
  refine lv_iload_n hC.1 hC.2.1 d_md_close_1 rfl (lv_at hl 1 rfl) ?_
  refine go_R (ca_V (As := [.int (iI (q))]) (rest := []) hC hw (c_md_isPiece l G S q hI (by omega)) (cv_md_94 hC rfl rfl (Nat.le_of_ble_eq_true rfl) (Nat.le_of_ble_eq_true rfl)) (by decide) rfl rfl rfl hl.1 rfl (Nat.le_of_ble_eq_true rfl) d_md_close_2 ⟨Nat.le_of_ble_eq_true rfl, Nat.le_of_ble_eq_true rfl⟩) ?_
  refine ir_beq (tgt := 29) hC d_md_close_5 (by decide) (fun c_1 => ?_) (fun c_1 => ?_)
  · skip
    refine lv_aload_n hC.1 hC.2.1 d_md_close_29 rfl (lv_at hl 0 rfl) ?_
    refine lv_iconst (v := iI 1) hC.1 hC.2.1 d_md_close_30 rfl ?_
    refine go_W (ca_V (As := [.int (iI (1))]) (rest := []) hC hw (c_md_fails l G S 1 (by omega)) (cv_md_90 hC rfl rfl (Nat.le_of_ble_eq_true rfl) (Nat.le_of_ble_eq_true rfl)) (by decide) rfl rfl rfl hl.1 rfl (Nat.le_of_ble_eq_true rfl) d_md_close_31 ⟨Nat.le_of_ble_eq_true rfl, Nat.le_of_ble_eq_true rfl⟩) hw (fun H locs hw => ?_)
    have hk_2 : kmX S q a b = 1 := (by first | (simp [kmX, c_1]; done) | (simp [kmX, c_1]; omega) | (simp [kmX, c_1]; done) | (simp [kmX, c_1]; omega) | (simp [kmX, c_1]; done) | (simp [kmX, c_1]; omega) | omega)
    exact rt_W hC hr hlk hw (by rw [if_neg (by omega)]) (by rw [if_neg (by omega), hk_2]) d_md_close_34
  · skip
    have w_3 := wn_t c_1
    refine lv_aload_n hC.1 hC.2.1 d_md_close_8 rfl (lv_at hl 0 rfl) ?_
    refine lv_iload_n hC.1 hC.2.1 d_md_close_9 rfl (lv_at hl 2 rfl) ?_
    refine go_R (ca_V (As := [.int (iI (a))]) (rest := []) hC hw (c_md_isTime l G S a hI (by omega)) (cv_md_140 hC rfl rfl (Nat.le_of_ble_eq_true rfl) (Nat.le_of_ble_eq_true rfl)) (by decide) rfl rfl rfl hl.1 rfl (Nat.le_of_ble_eq_true rfl) d_md_close_10 ⟨Nat.le_of_ble_eq_true rfl, Nat.le_of_ble_eq_true rfl⟩) ?_
    refine ir_beq (tgt := 29) hC d_md_close_13 (by decide) (fun c_4 => ?_) (fun c_4 => ?_)
    · skip
      refine lv_aload_n hC.1 hC.2.1 d_md_close_29 rfl (lv_at hl 0 rfl) ?_
      refine lv_iconst (v := iI 1) hC.1 hC.2.1 d_md_close_30 rfl ?_
      refine go_W (ca_V (As := [.int (iI (1))]) (rest := []) hC hw (c_md_fails l G S 1 (by omega)) (cv_md_90 hC rfl rfl (Nat.le_of_ble_eq_true rfl) (Nat.le_of_ble_eq_true rfl)) (by decide) rfl rfl rfl hl.1 rfl (Nat.le_of_ble_eq_true rfl) d_md_close_31 ⟨Nat.le_of_ble_eq_true rfl, Nat.le_of_ble_eq_true rfl⟩) hw (fun H locs hw => ?_)
      have hk_5 : kmX S q a b = 1 := (by first | (simp [kmX, c_1, c_4]; done) | (simp [kmX, c_1, c_4]; omega) | (simp [kmX, c_1, c_4]; done) | (simp [kmX, c_1, c_4]; omega) | (simp [kmX, c_1, c_4]; done) | (simp [kmX, c_1, c_4]; omega) | omega)
      exact rt_W hC hr hlk hw (by rw [if_neg (by omega)]) (by rw [if_neg (by omega), hk_5]) d_md_close_34
    · skip
      have w_6 := wn_t c_4
      refine lv_aload_n hC.1 hC.2.1 d_md_close_16 rfl (lv_at hl 0 rfl) ?_
      refine lv_iload_n hC.1 hC.2.1 d_md_close_17 rfl (lv_at hl 3 rfl) ?_
      refine go_R (ca_V (As := [.int (iI (b))]) (rest := []) hC hw (c_md_isTime l G S b hI (by omega)) (cv_md_140 hC rfl rfl (Nat.le_of_ble_eq_true rfl) (Nat.le_of_ble_eq_true rfl)) (by decide) rfl rfl rfl hl.1 rfl (Nat.le_of_ble_eq_true rfl) d_md_close_18 ⟨Nat.le_of_ble_eq_true rfl, Nat.le_of_ble_eq_true rfl⟩) ?_
      refine ir_beq (tgt := 29) hC d_md_close_21 (by decide) (fun c_7 => ?_) (fun c_7 => ?_)
      · skip
        refine lv_aload_n hC.1 hC.2.1 d_md_close_29 rfl (lv_at hl 0 rfl) ?_
        refine lv_iconst (v := iI 1) hC.1 hC.2.1 d_md_close_30 rfl ?_
        refine go_W (ca_V (As := [.int (iI (1))]) (rest := []) hC hw (c_md_fails l G S 1 (by omega)) (cv_md_90 hC rfl rfl (Nat.le_of_ble_eq_true rfl) (Nat.le_of_ble_eq_true rfl)) (by decide) rfl rfl rfl hl.1 rfl (Nat.le_of_ble_eq_true rfl) d_md_close_31 ⟨Nat.le_of_ble_eq_true rfl, Nat.le_of_ble_eq_true rfl⟩) hw (fun H locs hw => ?_)
        have hk_8 : kmX S q a b = 1 := (by first | (simp [kmX, c_1, c_4, c_7]; done) | (simp [kmX, c_1, c_4, c_7]; omega) | (simp [kmX, c_1, c_4, c_7]; done) | (simp [kmX, c_1, c_4, c_7]; omega) | (simp [kmX, c_1, c_4, c_7]; done) | (simp [kmX, c_1, c_4, c_7]; omega) | omega)
        exact rt_W hC hr hlk hw (by rw [if_neg (by omega)]) (by rw [if_neg (by omega), hk_8]) d_md_close_34
      · skip
        have w_9 := wn_t c_7
        refine lv_iload_n hC.1 hC.2.1 d_md_close_24 rfl (lv_at hl 2 rfl) ?_
        refine lv_iload_n hC.1 hC.2.1 d_md_close_25 rfl (lv_at hl 3 rfl) ?_
        refine ir_lt (tgt := 35) hC.1 hC.2.1 d_md_close_26 (by decide) ⟨by omega, by omega⟩ ⟨by omega, by omega⟩ (fun c_10 => ?_) (fun c_10 => ?_)
        · skip
          have i31 := iv_31 hI q.toNat
          refine lv_aload_n hC.1 hC.2.1 d_md_close_35 rfl (lv_at hl 0 rfl) ?_
          refine gf_md_25 hC hw d_md_close_36 ?_
          refine lv_iload_n hC.1 hC.2.1 d_md_close_39 rfl (lv_at hl 1 rfl) ?_
          refine ld_31 hC hw (by omega) (by omega) d_md_close_40 ?_
          have b_11 := iv_31 hI q.toNat
          refine lv_iconst (v := iI 4) hC.1 hC.2.1 d_md_close_41 rfl ?_
          refine ir_ne (tgt := 51) hC.1 hC.2.1 d_md_close_42 (by decide) ⟨by omega, by omega⟩ (by decide) (fun c_12 => ?_) (fun c_12 => ?_)
          · skip
            refine lv_aload_n hC.1 hC.2.1 d_md_close_51 rfl (lv_at hl 0 rfl) ?_
            refine lv_iconst (v := iI 0) hC.1 hC.2.1 d_md_close_52 rfl ?_
            refine pf_md_65 (x := 0) hC hw d_md_close_53 (fun H locs hw => ?_)
            have hI_13 := Inv.up (q := 25) (i := 0) (x := 0) hI (by omega) (show _ ≤ 2 from by omega)
            refine lv_aload_n hC.1 hC.2.1 d_md_close_56 rfl (lv_at hl 0 rfl) ?_
            refine gf_md_28 hC hw d_md_close_57 ?_
            refine lv_iconst (v := iI 4) hC.1 hC.2.1 d_md_close_60 rfl ?_
            refine lv_iload_n hC.1 hC.2.1 d_md_close_61 rfl (lv_at hl 1 rfl) ?_
            refine ir_mul hC.1 hC.2.1 d_md_close_62 ?_
            refine lv_aload_n hC.1 hC.2.1 d_md_close_63 rfl (lv_at hl 0 rfl) ?_
            refine gf_md_25 hC hw d_md_close_64 ?_
            refine lv_iload_n hC.1 hC.2.1 d_md_close_67 rfl (lv_at hl 1 rfl) ?_
            refine ld_31 hC hw (by omega) (by omega) d_md_close_68 ?_
            have b_14 := iv_31 hI_13 q.toNat
            have z_15 : (s_up S 25 0 0) 31 q.toNat = (s_up S 25 0 0) 31 q.toNat := rfl
            conv at z_15 => rhs; (try simp [s_up_at])
            refine ir_add hC.1 hC.2.1 d_md_close_69 ?_
            refine lv_iload_n hC.1 hC.2.1 d_md_close_70 rfl (lv_at hl 2 rfl) ?_
            refine st_32 (x := a) (z := (4 * q) + ((s_up S 25 0 0) 31 q.toNat)) hC hw (by omega) (by omega) d_md_close_71 (fun H locs hw => ?_)
            have hI_16 := Inv.up (q := 32) (i := ((4 * q) + ((s_up S 25 0 0) 31 q.toNat)).toNat) (x := a) hI_13 (by omega) (show _ ≤ 100000 from by omega)
            refine lv_aload_n hC.1 hC.2.1 d_md_close_72 rfl (lv_at hl 0 rfl) ?_
            refine gf_md_31 hC hw d_md_close_73 ?_
            refine lv_iconst (v := iI 4) hC.1 hC.2.1 d_md_close_76 rfl ?_
            refine lv_iload_n hC.1 hC.2.1 d_md_close_77 rfl (lv_at hl 1 rfl) ?_
            refine ir_mul hC.1 hC.2.1 d_md_close_78 ?_
            refine lv_aload_n hC.1 hC.2.1 d_md_close_79 rfl (lv_at hl 0 rfl) ?_
            refine gf_md_25 hC hw d_md_close_80 ?_
            refine lv_iload_n hC.1 hC.2.1 d_md_close_83 rfl (lv_at hl 1 rfl) ?_
            refine ld_31 hC hw (by omega) (by omega) d_md_close_84 ?_
            have b_17 := iv_31 hI_16 q.toNat
            have z_18 : (s_up (s_up S 25 0 0) 32 ((4 * q) + ((s_up S 25 0 0) 31 q.toNat)).toNat a) 31 q.toNat = (s_up (s_up S 25 0 0) 32 ((4 * q) + ((s_up S 25 0 0) 31 q.toNat)).toNat a) 31 q.toNat := rfl
            conv at z_18 => rhs; (try simp [s_up_at])
            refine ir_add hC.1 hC.2.1 d_md_close_85 ?_
            refine lv_iload_n hC.1 hC.2.1 d_md_close_86 rfl (lv_at hl 3 rfl) ?_
            refine st_33 (x := b) (z := (4 * q) + ((s_up (s_up S 25 0 0) 32 ((4 * q) + ((s_up S 25 0 0) 31 q.toNat)).toNat a) 31 q.toNat)) hC hw (by omega) (by omega) d_md_close_87 (fun H locs hw => ?_)
            have hI_19 := Inv.up (q := 33) (i := ((4 * q) + ((s_up (s_up S 25 0 0) 32 ((4 * q) + ((s_up S 25 0 0) 31 q.toNat)).toNat a) 31 q.toNat)).toNat) (x := b) hI_16 (by omega) (show _ ≤ 100000 from by omega)
            refine lv_aload_n hC.1 hC.2.1 d_md_close_88 rfl (lv_at hl 0 rfl) ?_
            refine gf_md_25 hC hw d_md_close_89 ?_
            refine lv_iload_n hC.1 hC.2.1 d_md_close_92 rfl (lv_at hl 1 rfl) ?_
            refine lv_dup2_11 hC.1 hC.2.1 d_md_close_93 rfl rfl ?_
            refine ld_31 hC hw (by omega) (by omega) d_md_close_94 ?_
            have b_20 := iv_31 hI_19 q.toNat
            have z_21 : (s_up (s_up (s_up S 25 0 0) 32 ((4 * q) + ((s_up S 25 0 0) 31 q.toNat)).toNat a) 33 ((4 * q) + ((s_up (s_up S 25 0 0) 32 ((4 * q) + ((s_up S 25 0 0) 31 q.toNat)).toNat a) 31 q.toNat)).toNat b) 31 q.toNat = (s_up (s_up (s_up S 25 0 0) 32 ((4 * q) + ((s_up S 25 0 0) 31 q.toNat)).toNat a) 33 ((4 * q) + ((s_up (s_up S 25 0 0) 32 ((4 * q) + ((s_up S 25 0 0) 31 q.toNat)).toNat a) 31 q.toNat)).toNat b) 31 q.toNat := rfl
            conv at z_21 => rhs; (try simp [s_up_at])
            refine lv_iconst (v := iI 1) hC.1 hC.2.1 d_md_close_95 rfl ?_
            refine ir_add hC.1 hC.2.1 d_md_close_96 ?_
            refine st_31 (x := ((s_up (s_up (s_up S 25 0 0) 32 ((4 * q) + ((s_up S 25 0 0) 31 q.toNat)).toNat a) 33 ((4 * q) + ((s_up (s_up S 25 0 0) 32 ((4 * q) + ((s_up S 25 0 0) 31 q.toNat)).toNat a) 31 q.toNat)).toNat b) 31 q.toNat) + 1) (z := q) hC hw (by omega) (by omega) d_md_close_97 (fun H locs hw => ?_)
            have hI_22 := Inv.up (q := 31) (i := q.toNat) (x := ((s_up (s_up (s_up S 25 0 0) 32 ((4 * q) + ((s_up S 25 0 0) 31 q.toNat)).toNat a) 33 ((4 * q) + ((s_up (s_up S 25 0 0) 32 ((4 * q) + ((s_up S 25 0 0) 31 q.toNat)).toNat a) 31 q.toNat)).toNat b) 31 q.toNat) + 1) hI_19 (by omega) (show _ ≤ 4 from by omega)
            have hq0 : mSa (s_up S 25 0 0) q a b = (s_up (s_up (s_up (s_up S 25 0 0) 32 ((4 * q) + ((s_up S 25 0 0) 31 q.toNat)).toNat a) 33 ((4 * q) + ((s_up (s_up S 25 0 0) 32 ((4 * q) + ((s_up S 25 0 0) 31 q.toNat)).toNat a) 31 q.toNat)).toNat b) 31 q.toNat (((s_up (s_up (s_up S 25 0 0) 32 ((4 * q) + ((s_up S 25 0 0) 31 q.toNat)).toNat a) 33 ((4 * q) + ((s_up (s_up S 25 0 0) 32 ((4 * q) + ((s_up S 25 0 0) 31 q.toNat)).toNat a) 31 q.toNat)).toNat b) 31 q.toNat) + 1)) := (by unfold mSa; simp [s_up_at])
            have hqI : Inv (mSa (s_up S 25 0 0) q a b) := hq0 ▸ hI_22
            have n16 : ∀ n : Nat, mCs (mSa (s_up S 25 0 0) q a b) q a b n 25 16 = S 25 16 := fun n => (by rw [mCs_ne _ _ _ _ _ (by decide)]; unfold mSa; simp [s_up_at])
            have nso : ∀ n j : Nat, 0 < mCs (mSa (s_up S 25 0 0) q a b) q a b n 40 j → 1 ≤ mCs (mSa (s_up S 25 0 0) q a b) q a b n 35 (mCs (mSa (s_up S 25 0 0) q a b) q a b n 37 j).toNat := fun n j z => (by rw [mCs_ne _ _ _ _ _ (by decide)] at z; rw [mCs_ne _ _ _ _ _ (show 35 ≠ 39 by decide), mCs_ne _ _ _ _ _ (show 37 ≠ 39 by decide)]; unfold mSa at z ⊢; simp [s_up_cell] at z ⊢; exact hso j z)
            refine lv_iconst (v := iI 0) hC.1 hC.2.1 d_md_close_98 rfl ?_
            refine lv_istore (lv' := [(4, .int (iI (0))), (0, .ref (G.2.1 25)), (1, .int (iI (q))), (2, .int (iI (a))), (3, .int (iI (b)))]) hC.1 hC.2.1 d_md_close_99 hl (by decide) rfl (fun ls hl => ?_)
            refine lv_iconst (v := iI 1) hC.1 hC.2.1 d_md_close_101 rfl ?_
            refine lv_istore (lv' := [(5, .int (iI (1))), (4, .int (iI (0))), (0, .ref (G.2.1 25)), (1, .int (iI (q))), (2, .int (iI (a))), (3, .int (iI (b)))]) hC.1 hC.2.1 d_md_close_102 hl (by decide) rfl (fun ls hl => ?_)
            have loop_104 : ∀ (nn : Nat) (n : Nat) (x4 : Int) (x5 : Int), (S 25 16).toNat - n < nn → x4 = mCc (mSa (s_up S 25 0 0) q a b) q a b n → x5 = (n : Int) + 1 → (n : Int) ≤ S 25 16 → ∀ (H : Heap) (locs : List Loc) (ls : Array Slot), wh G (mCs (mSa (s_up S 25 0 0) q a b) q a b n) s H locs → lv_has ls 8 [(5, .int (iI (x5))), (4, .int (iI (x4))), (0, .ref (G.2.1 25)), (1, .int (iI (q))), (2, .int (iI (a))), (3, .int (iI (b)))] → W p l e { frames := 3, cells := 0, slots := 0, locals := 68 } s m ([.ref (G.2.1 25), .int (iI (q)), .int (iI (a)), .int (iI (b))] : List Value).toArray below meth c H locs 0 0 (MQ below (qW G (if kmX S q a b = 0 then mCs (mSa (s_up S 25 0 0) q a b) q a b (S 25 16).toNat else s_up S 25 0 (kmX S q a b)) (if kmX S q a b = 0 then mCc (mSa (s_up S 25 0 0) q a b) q a b (S 25 16).toNat else 0)) ([.ref (G.2.1 25), .int (iI (q)), .int (iI (a)), .int (iI (b))] : List Value).toArray s 0 0 (gA G)) (F0 m 104 ls []) := by
              intro nn
              induction nn with
              | zero => intros; omega
              | succ nn ih_104 =>
                intro n x4 x5 hms_104 hx4 hx5 hv0 H locs ls hw hl
                have e16 := n16 n
                have cb := mCc_b (mSa (s_up S 25 0 0) q a b) q a b n
                have so1 := nso n x5.toNat
                refine lv_iload hC.1 hC.2.1 d_md_close_104 (lv_at hl 0 rfl) ?_
                refine lv_aload_n hC.1 hC.2.1 d_md_close_106 rfl (lv_at hl 2 rfl) ?_
                refine gf_md_75 hC hw d_md_close_107 ?_
                have b_23 := iv_25k (mCs_I hqI q a b n)
                have z_24 : (mCs (mSa (s_up S 25 0 0) q a b) q a b n) 25 16 = (mCs (mSa (s_up S 25 0 0) q a b) q a b n) 25 16 := rfl
                conv at z_24 => rhs; (try simp [s_up_at])
                refine ir_gt (tgt := 248) hC.1 hC.2.1 d_md_close_110 (by decide) ⟨by omega, by omega⟩ ⟨by omega, by omega⟩ (fun c_25 => ?_) (fun c_25 => ?_)
                · skip
                  refine lv_iload hC.1 hC.2.1 d_md_close_248 (lv_at hl 1 rfl) ?_
                  have hk_26 : kmX S q a b = 0 := (by first | (simp [kmX, c_1, c_4, c_7, c_10, c_12, c_25]; done) | (simp [kmX, c_1, c_4, c_7, c_10, c_12, c_25]; omega) | (simp [kmX, c_1, c_4, c_7, c_10, c_12, c_25]; done) | (simp [kmX, c_1, c_4, c_7, c_10, c_12, c_25]; omega) | (simp [kmX, c_1, c_4, c_7]; done) | (simp [kmX, c_1, c_4, c_7]; omega) | omega)
                  exact rt_W hC hr hlk hw (by rw [if_pos hk_26] <;> (rw [hx4, show (S 25 16).toNat = n by omega])) (by rw [if_pos hk_26] <;> (rw [show (S 25 16).toNat = n by omega])) d_md_close_250
                · skip
                  refine lv_iconst (v := iI 0) hC.1 hC.2.1 d_md_close_113 rfl ?_
                  refine lv_istore (lv' := [(6, .int (iI (0))), (5, .int (iI (x5))), (4, .int (iI (x4))), (0, .ref (G.2.1 25)), (1, .int (iI (q))), (2, .int (iI (a))), (3, .int (iI (b)))]) hC.1 hC.2.1 d_md_close_114 hl (by decide) rfl (fun ls hl => ?_)
                  refine lv_iconst (v := iI 0) hC.1 hC.2.1 d_md_close_116 rfl ?_
                  refine lv_istore (lv' := [(7, .int (iI (0))), (6, .int (iI (0))), (5, .int (iI (x5))), (4, .int (iI (x4))), (0, .ref (G.2.1 25)), (1, .int (iI (q))), (2, .int (iI (a))), (3, .int (iI (b)))]) hC.1 hC.2.1 d_md_close_117 hl (by decide) rfl (fun ls hl => ?_)
                  have loop_119 : ∀ (nn : Nat) (j : Nat) (x6 : Int) (x7 : Int), ((mCs (mSa (s_up S 25 0 0) q a b) q a b n) 40 x5.toNat).toNat - j < nn → x6 = bI (mEd (mCs (mSa (s_up S 25 0 0) q a b) q a b n) q a b x5 j) → x7 = (j : Int) → (j : Int) ≤ (mCs (mSa (s_up S 25 0 0) q a b) q a b n) 40 x5.toNat → j = 0 ∨ ¬ (mCs (mSa (s_up S 25 0 0) q a b) q a b n) 39 x5.toNat = 0 → ∀ (H : Heap) (locs : List Loc) (ls : Array Slot), wh G (mCs (mSa (s_up S 25 0 0) q a b) q a b n) s H locs → lv_has ls 8 [(7, .int (iI (x7))), (6, .int (iI (x6))), (5, .int (iI (x5))), (4, .int (iI (x4))), (0, .ref (G.2.1 25)), (1, .int (iI (q))), (2, .int (iI (a))), (3, .int (iI (b)))] → W p l e { frames := 3, cells := 0, slots := 0, locals := 68 } s m ([.ref (G.2.1 25), .int (iI (q)), .int (iI (a)), .int (iI (b))] : List Value).toArray below meth c H locs 0 0 (MQ below (qW G (if kmX S q a b = 0 then mCs (mSa (s_up S 25 0 0) q a b) q a b (S 25 16).toNat else s_up S 25 0 (kmX S q a b)) (if kmX S q a b = 0 then mCc (mSa (s_up S 25 0 0) q a b) q a b (S 25 16).toNat else 0)) ([.ref (G.2.1 25), .int (iI (q)), .int (iI (a)), .int (iI (b))] : List Value).toArray s 0 0 (gA G)) (F0 m 119 ls []) := by
                    intro nn
                    induction nn with
                    | zero => intros; omega
                    | succ nn ih_119 =>
                      intro j x6 x7 hms_119 hx6 hx7 hv0 hv1 H locs ls hw hl
                      have i40 := iv_40 (mCs_I hqI q a b n) x5.toNat
                      have bk := bI_b (mEd (mCs (mSa (s_up S 25 0 0) q a b) q a b n) q a b x5 j)
                      refine lv_iload hC.1 hC.2.1 d_md_close_119 (lv_at hl 0 rfl) ?_
                      refine lv_aload_n hC.1 hC.2.1 d_md_close_121 rfl (lv_at hl 4 rfl) ?_
                      refine gf_md_53 hC hw d_md_close_122 ?_
                      refine lv_iload hC.1 hC.2.1 d_md_close_125 (lv_at hl 2 rfl) ?_
                      refine ld_40 hC hw (by omega) (by omega) d_md_close_127 ?_
                      have b_27 := iv_40 (mCs_I hqI q a b n) x5.toNat
                      have z_28 : (mCs (mSa (s_up S 25 0 0) q a b) q a b n) 40 x5.toNat = (mCs (mSa (s_up S 25 0 0) q a b) q a b n) 40 x5.toNat := rfl
                      conv at z_28 => rhs; (try simp [s_up_at])
                      refine ir_ge (tgt := 200) hC.1 hC.2.1 d_md_close_128 (by decide) ⟨by omega, by omega⟩ ⟨by omega, by omega⟩ (fun c_29 => ?_) (fun c_29 => ?_)
                      · skip
                        have hee : x6 = bI (mEe (mCs (mSa (s_up S 25 0 0) q a b) q a b n) q a b x5) := (by rw [hx6]; unfold mEe; by_cases z : (mCs (mSa (s_up S 25 0 0) q a b) q a b n) 39 x5.toNat = 0; (rw [show j = 0 by omega]; simp [z, mEd]); (rw [show ((mCs (mSa (s_up S 25 0 0) q a b) q a b n) 40 x5.toNat).toNat = j by omega]; simp [z]))
                        have heb := bI_b (mEe (mCs (mSa (s_up S 25 0 0) q a b) q a b n) q a b x5)
                        have hei := bI_i (mEe (mCs (mSa (s_up S 25 0 0) q a b) q a b n) q a b x5)
                        refine lv_aload_n hC.1 hC.2.1 d_md_close_200 rfl (lv_at hl 4 rfl) ?_
                        refine gf_md_49 hC hw d_md_close_201 ?_
                        refine lv_iload hC.1 hC.2.1 d_md_close_204 (lv_at hl 2 rfl) ?_
                        refine lv_aload_n hC.1 hC.2.1 d_md_close_206 rfl (lv_at hl 4 rfl) ?_
                        refine gf_md_49 hC hw d_md_close_207 ?_
                        refine lv_iload hC.1 hC.2.1 d_md_close_210 (lv_at hl 2 rfl) ?_
                        refine ld_39 hC hw (by omega) (by omega) d_md_close_212 ?_
                        have b_30 := iv_39 (mCs_I hqI q a b n) x5.toNat
                        have z_31 : (mCs (mSa (s_up S 25 0 0) q a b) q a b n) 39 x5.toNat = (mCs (mSa (s_up S 25 0 0) q a b) q a b n) 39 x5.toNat := rfl
                        conv at z_31 => rhs; (try simp [s_up_at])
                        refine ir_if_eq (tgt := 225) hC.1 hC.2.1 d_md_close_213 (by decide) ⟨by omega, by omega⟩ (fun c_32 => ?_) (fun c_32 => ?_)
                        · skip
                          refine lv_iconst (v := iI 0) hC.1 hC.2.1 d_md_close_225 rfl ?_
                          refine st_39 (x := 0) (z := x5) hC hw (by omega) (by omega) (by omega) d_md_close_226 (fun H locs hw => ?_)
                          have hI_33 := Inv.up (q := 39) (i := x5.toNat) (x := 0) (mCs_I hqI q a b n) (by omega) (show _ ≤ 1 from by omega)
                          refine lv_iload hC.1 hC.2.1 d_md_close_227 (lv_at hl 3 rfl) ?_
                          refine lv_iload hC.1 hC.2.1 d_md_close_229 (lv_at hl 1 rfl) ?_
                          refine ir_if_eq (tgt := 238) hC.1 hC.2.1 d_md_close_231 (by decide) ⟨by omega, by omega⟩ (fun c_34 => ?_) (fun c_34 => ?_)
                          · skip
                            refine lv_iconst (v := iI 0) hC.1 hC.2.1 d_md_close_238 rfl ?_
                            refine ir_add hC.1 hC.2.1 d_md_close_239 ?_
                            refine lv_istore (lv' := [(4, .int (iI (x4 + 0))), (7, .int (iI (x7))), (6, .int (iI (x6))), (5, .int (iI (x5))), (0, .ref (G.2.1 25)), (1, .int (iI (q))), (2, .int (iI (a))), (3, .int (iI (b)))]) hC.1 hC.2.1 d_md_close_240 hl (by decide) rfl (fun ls hl => ?_)
                            refine lv_iinc (v := iI (x5 + 1)) (lv' := [(5, .int (iI (x5 + 1))), (4, .int (iI (x4 + 0))), (7, .int (iI (x7))), (6, .int (iI (x6))), (0, .ref (G.2.1 25)), (1, .int (iI (q))), (2, .int (iI (a))), (3, .int (iI (b)))]) hC.1 hC.2.1 d_md_close_242 hl (k := 3) rfl (iI_add _ _) (by decide) rfl (fun ls hl => ?_)
                            refine lv_goto (tgt := 104) hC.1 hC.2.1 d_md_close_245 (by decide) ?_
                            exact ih_104 (n + 1) _ _ (by omega) (by rw [mCc_s, ← hx5]; first | (rw [if_pos (by omega)]; omega) | (rw [if_neg (by omega)]; omega) | (cases hq1 : mEe (mCs (mSa (s_up S 25 0 0) q a b) q a b n) q a b x5 <;> rw [hq1] at hee hei <;> simp [bI] at hee ⊢ <;> omega)) (by first | rfl | omega) (by omega) _ _ _ (by rw [mCs_s, ← hx5]; cases hq1 : mEe (mCs (mSa (s_up S 25 0 0) q a b) q a b n) q a b x5 <;> rw [hq1] at hee <;> simp [bI] at hee ⊢ <;> first | (exfalso; omega) | exact hw | (rw [if_pos (by omega)]; exact hw) | (rw [if_neg (by omega)]; exact hw)) (lv_sub hl [0, 1, 4, 5, 6, 7] rfl)
                          · skip
                            refine lv_iconst (v := iI 1) hC.1 hC.2.1 d_md_close_234 rfl ?_
                            refine lv_goto (tgt := 239) hC.1 hC.2.1 d_md_close_235 (by decide) ?_
                            refine ir_add hC.1 hC.2.1 d_md_close_239 ?_
                            refine lv_istore (lv' := [(4, .int (iI (x4 + 1))), (7, .int (iI (x7))), (6, .int (iI (x6))), (5, .int (iI (x5))), (0, .ref (G.2.1 25)), (1, .int (iI (q))), (2, .int (iI (a))), (3, .int (iI (b)))]) hC.1 hC.2.1 d_md_close_240 hl (by decide) rfl (fun ls hl => ?_)
                            refine lv_iinc (v := iI (x5 + 1)) (lv' := [(5, .int (iI (x5 + 1))), (4, .int (iI (x4 + 1))), (7, .int (iI (x7))), (6, .int (iI (x6))), (0, .ref (G.2.1 25)), (1, .int (iI (q))), (2, .int (iI (a))), (3, .int (iI (b)))]) hC.1 hC.2.1 d_md_close_242 hl (k := 3) rfl (iI_add _ _) (by decide) rfl (fun ls hl => ?_)
                            refine lv_goto (tgt := 104) hC.1 hC.2.1 d_md_close_245 (by decide) ?_
                            exact ih_104 (n + 1) _ _ (by omega) (by rw [mCc_s, ← hx5]; first | (rw [if_pos (by omega)]; omega) | (rw [if_neg (by omega)]; omega) | (cases hq1 : mEe (mCs (mSa (s_up S 25 0 0) q a b) q a b n) q a b x5 <;> rw [hq1] at hee hei <;> simp [bI] at hee ⊢ <;> omega)) (by first | rfl | omega) (by omega) _ _ _ (by rw [mCs_s, ← hx5]; cases hq1 : mEe (mCs (mSa (s_up S 25 0 0) q a b) q a b n) q a b x5 <;> rw [hq1] at hee <;> simp [bI] at hee ⊢ <;> first | (exfalso; omega) | exact hw | (rw [if_pos (by omega)]; exact hw) | (rw [if_neg (by omega)]; exact hw)) (lv_sub hl [0, 1, 4, 5, 6, 7] rfl)
                        · skip
                          refine lv_iload hC.1 hC.2.1 d_md_close_216 (lv_at hl 1 rfl) ?_
                          refine ir_if_ne (tgt := 225) hC.1 hC.2.1 d_md_close_218 (by decide) ⟨by omega, by omega⟩ (fun c_35 => ?_) (fun c_35 => ?_)
                          · skip
                            refine lv_iconst (v := iI 0) hC.1 hC.2.1 d_md_close_225 rfl ?_
                            refine st_39 (x := 0) (z := x5) hC hw (by omega) (by omega) (by omega) d_md_close_226 (fun H locs hw => ?_)
                            have hI_36 := Inv.up (q := 39) (i := x5.toNat) (x := 0) (mCs_I hqI q a b n) (by omega) (show _ ≤ 1 from by omega)
                            refine lv_iload hC.1 hC.2.1 d_md_close_227 (lv_at hl 3 rfl) ?_
                            refine lv_iload hC.1 hC.2.1 d_md_close_229 (lv_at hl 1 rfl) ?_
                            refine ir_if_eq (tgt := 238) hC.1 hC.2.1 d_md_close_231 (by decide) ⟨by omega, by omega⟩ (fun c_37 => ?_) (fun c_37 => ?_)
                            · skip
                              refine lv_iconst (v := iI 0) hC.1 hC.2.1 d_md_close_238 rfl ?_
                              refine ir_add hC.1 hC.2.1 d_md_close_239 ?_
                              refine lv_istore (lv' := [(4, .int (iI (x4 + 0))), (7, .int (iI (x7))), (6, .int (iI (x6))), (5, .int (iI (x5))), (0, .ref (G.2.1 25)), (1, .int (iI (q))), (2, .int (iI (a))), (3, .int (iI (b)))]) hC.1 hC.2.1 d_md_close_240 hl (by decide) rfl (fun ls hl => ?_)
                              refine lv_iinc (v := iI (x5 + 1)) (lv' := [(5, .int (iI (x5 + 1))), (4, .int (iI (x4 + 0))), (7, .int (iI (x7))), (6, .int (iI (x6))), (0, .ref (G.2.1 25)), (1, .int (iI (q))), (2, .int (iI (a))), (3, .int (iI (b)))]) hC.1 hC.2.1 d_md_close_242 hl (k := 3) rfl (iI_add _ _) (by decide) rfl (fun ls hl => ?_)
                              refine lv_goto (tgt := 104) hC.1 hC.2.1 d_md_close_245 (by decide) ?_
                              exact ih_104 (n + 1) _ _ (by omega) (by rw [mCc_s, ← hx5]; first | (rw [if_pos (by omega)]; omega) | (rw [if_neg (by omega)]; omega) | (cases hq1 : mEe (mCs (mSa (s_up S 25 0 0) q a b) q a b n) q a b x5 <;> rw [hq1] at hee hei <;> simp [bI] at hee ⊢ <;> omega)) (by first | rfl | omega) (by omega) _ _ _ (by rw [mCs_s, ← hx5]; cases hq1 : mEe (mCs (mSa (s_up S 25 0 0) q a b) q a b n) q a b x5 <;> rw [hq1] at hee <;> simp [bI] at hee ⊢ <;> first | (exfalso; omega) | exact hw | (rw [if_pos (by omega)]; exact hw) | (rw [if_neg (by omega)]; exact hw)) (lv_sub hl [0, 1, 4, 5, 6, 7] rfl)
                            · skip
                              refine lv_iconst (v := iI 1) hC.1 hC.2.1 d_md_close_234 rfl ?_
                              refine lv_goto (tgt := 239) hC.1 hC.2.1 d_md_close_235 (by decide) ?_
                              refine ir_add hC.1 hC.2.1 d_md_close_239 ?_
                              refine lv_istore (lv' := [(4, .int (iI (x4 + 1))), (7, .int (iI (x7))), (6, .int (iI (x6))), (5, .int (iI (x5))), (0, .ref (G.2.1 25)), (1, .int (iI (q))), (2, .int (iI (a))), (3, .int (iI (b)))]) hC.1 hC.2.1 d_md_close_240 hl (by decide) rfl (fun ls hl => ?_)
                              refine lv_iinc (v := iI (x5 + 1)) (lv' := [(5, .int (iI (x5 + 1))), (4, .int (iI (x4 + 1))), (7, .int (iI (x7))), (6, .int (iI (x6))), (0, .ref (G.2.1 25)), (1, .int (iI (q))), (2, .int (iI (a))), (3, .int (iI (b)))]) hC.1 hC.2.1 d_md_close_242 hl (k := 3) rfl (iI_add _ _) (by decide) rfl (fun ls hl => ?_)
                              refine lv_goto (tgt := 104) hC.1 hC.2.1 d_md_close_245 (by decide) ?_
                              exact ih_104 (n + 1) _ _ (by omega) (by rw [mCc_s, ← hx5]; first | (rw [if_pos (by omega)]; omega) | (rw [if_neg (by omega)]; omega) | (cases hq1 : mEe (mCs (mSa (s_up S 25 0 0) q a b) q a b n) q a b x5 <;> rw [hq1] at hee hei <;> simp [bI] at hee ⊢ <;> omega)) (by first | rfl | omega) (by omega) _ _ _ (by rw [mCs_s, ← hx5]; cases hq1 : mEe (mCs (mSa (s_up S 25 0 0) q a b) q a b n) q a b x5 <;> rw [hq1] at hee <;> simp [bI] at hee ⊢ <;> first | (exfalso; omega) | exact hw | (rw [if_pos (by omega)]; exact hw) | (rw [if_neg (by omega)]; exact hw)) (lv_sub hl [0, 1, 4, 5, 6, 7] rfl)
                          · skip
                            refine lv_iconst (v := iI 1) hC.1 hC.2.1 d_md_close_221 rfl ?_
                            refine lv_goto (tgt := 226) hC.1 hC.2.1 d_md_close_222 (by decide) ?_
                            refine st_39 (x := 1) (z := x5) hC hw (by omega) (by omega) (by omega) d_md_close_226 (fun H locs hw => ?_)
                            have hI_38 := Inv.up (q := 39) (i := x5.toNat) (x := 1) (mCs_I hqI q a b n) (by omega) (show _ ≤ 1 from by omega)
                            refine lv_iload hC.1 hC.2.1 d_md_close_227 (lv_at hl 3 rfl) ?_
                            refine lv_iload hC.1 hC.2.1 d_md_close_229 (lv_at hl 1 rfl) ?_
                            refine ir_if_eq (tgt := 238) hC.1 hC.2.1 d_md_close_231 (by decide) ⟨by omega, by omega⟩ (fun c_39 => ?_) (fun c_39 => ?_)
                            · skip
                              refine lv_iconst (v := iI 0) hC.1 hC.2.1 d_md_close_238 rfl ?_
                              refine ir_add hC.1 hC.2.1 d_md_close_239 ?_
                              refine lv_istore (lv' := [(4, .int (iI (x4 + 0))), (7, .int (iI (x7))), (6, .int (iI (x6))), (5, .int (iI (x5))), (0, .ref (G.2.1 25)), (1, .int (iI (q))), (2, .int (iI (a))), (3, .int (iI (b)))]) hC.1 hC.2.1 d_md_close_240 hl (by decide) rfl (fun ls hl => ?_)
                              refine lv_iinc (v := iI (x5 + 1)) (lv' := [(5, .int (iI (x5 + 1))), (4, .int (iI (x4 + 0))), (7, .int (iI (x7))), (6, .int (iI (x6))), (0, .ref (G.2.1 25)), (1, .int (iI (q))), (2, .int (iI (a))), (3, .int (iI (b)))]) hC.1 hC.2.1 d_md_close_242 hl (k := 3) rfl (iI_add _ _) (by decide) rfl (fun ls hl => ?_)
                              refine lv_goto (tgt := 104) hC.1 hC.2.1 d_md_close_245 (by decide) ?_
                              exact ih_104 (n + 1) _ _ (by omega) (by rw [mCc_s, ← hx5]; first | (rw [if_pos (by omega)]; omega) | (rw [if_neg (by omega)]; omega) | (cases hq1 : mEe (mCs (mSa (s_up S 25 0 0) q a b) q a b n) q a b x5 <;> rw [hq1] at hee hei <;> simp [bI] at hee ⊢ <;> omega)) (by first | rfl | omega) (by omega) _ _ _ (by rw [mCs_s, ← hx5]; cases hq1 : mEe (mCs (mSa (s_up S 25 0 0) q a b) q a b n) q a b x5 <;> rw [hq1] at hee <;> simp [bI] at hee ⊢ <;> first | (exfalso; omega) | exact hw | (rw [if_pos (by omega)]; exact hw) | (rw [if_neg (by omega)]; exact hw)) (lv_sub hl [0, 1, 4, 5, 6, 7] rfl)
                            · skip
                              refine lv_iconst (v := iI 1) hC.1 hC.2.1 d_md_close_234 rfl ?_
                              refine lv_goto (tgt := 239) hC.1 hC.2.1 d_md_close_235 (by decide) ?_
                              refine ir_add hC.1 hC.2.1 d_md_close_239 ?_
                              refine lv_istore (lv' := [(4, .int (iI (x4 + 1))), (7, .int (iI (x7))), (6, .int (iI (x6))), (5, .int (iI (x5))), (0, .ref (G.2.1 25)), (1, .int (iI (q))), (2, .int (iI (a))), (3, .int (iI (b)))]) hC.1 hC.2.1 d_md_close_240 hl (by decide) rfl (fun ls hl => ?_)
                              refine lv_iinc (v := iI (x5 + 1)) (lv' := [(5, .int (iI (x5 + 1))), (4, .int (iI (x4 + 1))), (7, .int (iI (x7))), (6, .int (iI (x6))), (0, .ref (G.2.1 25)), (1, .int (iI (q))), (2, .int (iI (a))), (3, .int (iI (b)))]) hC.1 hC.2.1 d_md_close_242 hl (k := 3) rfl (iI_add _ _) (by decide) rfl (fun ls hl => ?_)
                              refine lv_goto (tgt := 104) hC.1 hC.2.1 d_md_close_245 (by decide) ?_
                              exact ih_104 (n + 1) _ _ (by omega) (by rw [mCc_s, ← hx5]; first | (rw [if_pos (by omega)]; omega) | (rw [if_neg (by omega)]; omega) | (cases hq1 : mEe (mCs (mSa (s_up S 25 0 0) q a b) q a b n) q a b x5 <;> rw [hq1] at hee hei <;> simp [bI] at hee ⊢ <;> omega)) (by first | rfl | omega) (by omega) _ _ _ (by rw [mCs_s, ← hx5]; cases hq1 : mEe (mCs (mSa (s_up S 25 0 0) q a b) q a b n) q a b x5 <;> rw [hq1] at hee <;> simp [bI] at hee ⊢ <;> first | (exfalso; omega) | exact hw | (rw [if_pos (by omega)]; exact hw) | (rw [if_neg (by omega)]; exact hw)) (lv_sub hl [0, 1, 4, 5, 6, 7] rfl)
                      · skip
                        refine lv_aload_n hC.1 hC.2.1 d_md_close_131 rfl (lv_at hl 4 rfl) ?_
                        refine gf_md_49 hC hw d_md_close_132 ?_
                        refine lv_iload hC.1 hC.2.1 d_md_close_135 (lv_at hl 2 rfl) ?_
                        refine ld_39 hC hw (by omega) (by omega) d_md_close_137 ?_
                        have b_40 := iv_39 (mCs_I hqI q a b n) x5.toNat
                        have z_41 : (mCs (mSa (s_up S 25 0 0) q a b) q a b n) 39 x5.toNat = (mCs (mSa (s_up S 25 0 0) q a b) q a b n) 39 x5.toNat := rfl
                        conv at z_41 => rhs; (try simp [s_up_at])
                        refine ir_if_eq (tgt := 200) hC.1 hC.2.1 d_md_close_138 (by decide) ⟨by omega, by omega⟩ (fun c_42 => ?_) (fun c_42 => ?_)
                        · skip
                          have hee : x6 = bI (mEe (mCs (mSa (s_up S 25 0 0) q a b) q a b n) q a b x5) := (by rw [hx6]; unfold mEe; by_cases z : (mCs (mSa (s_up S 25 0 0) q a b) q a b n) 39 x5.toNat = 0; (rw [show j = 0 by omega]; simp [z, mEd]); (rw [show ((mCs (mSa (s_up S 25 0 0) q a b) q a b n) 40 x5.toNat).toNat = j by omega]; simp [z]))
                          have heb := bI_b (mEe (mCs (mSa (s_up S 25 0 0) q a b) q a b n) q a b x5)
                          have hei := bI_i (mEe (mCs (mSa (s_up S 25 0 0) q a b) q a b n) q a b x5)
                          refine lv_aload_n hC.1 hC.2.1 d_md_close_200 rfl (lv_at hl 4 rfl) ?_
                          refine gf_md_49 hC hw d_md_close_201 ?_
                          refine lv_iload hC.1 hC.2.1 d_md_close_204 (lv_at hl 2 rfl) ?_
                          refine lv_aload_n hC.1 hC.2.1 d_md_close_206 rfl (lv_at hl 4 rfl) ?_
                          refine gf_md_49 hC hw d_md_close_207 ?_
                          refine lv_iload hC.1 hC.2.1 d_md_close_210 (lv_at hl 2 rfl) ?_
                          refine ld_39 hC hw (by omega) (by omega) d_md_close_212 ?_
                          have b_43 := iv_39 (mCs_I hqI q a b n) x5.toNat
                          have z_44 : (mCs (mSa (s_up S 25 0 0) q a b) q a b n) 39 x5.toNat = (mCs (mSa (s_up S 25 0 0) q a b) q a b n) 39 x5.toNat := rfl
                          conv at z_44 => rhs; (try simp [s_up_at])
                          refine ir_if_eq (tgt := 225) hC.1 hC.2.1 d_md_close_213 (by decide) ⟨by omega, by omega⟩ (fun c_45 => ?_) (fun c_45 => ?_)
                          · skip
                            refine lv_iconst (v := iI 0) hC.1 hC.2.1 d_md_close_225 rfl ?_
                            refine st_39 (x := 0) (z := x5) hC hw (by omega) (by omega) (by omega) d_md_close_226 (fun H locs hw => ?_)
                            have hI_46 := Inv.up (q := 39) (i := x5.toNat) (x := 0) (mCs_I hqI q a b n) (by omega) (show _ ≤ 1 from by omega)
                            refine lv_iload hC.1 hC.2.1 d_md_close_227 (lv_at hl 3 rfl) ?_
                            refine lv_iload hC.1 hC.2.1 d_md_close_229 (lv_at hl 1 rfl) ?_
                            refine ir_if_eq (tgt := 238) hC.1 hC.2.1 d_md_close_231 (by decide) ⟨by omega, by omega⟩ (fun c_47 => ?_) (fun c_47 => ?_)
                            · skip
                              refine lv_iconst (v := iI 0) hC.1 hC.2.1 d_md_close_238 rfl ?_
                              refine ir_add hC.1 hC.2.1 d_md_close_239 ?_
                              refine lv_istore (lv' := [(4, .int (iI (x4 + 0))), (7, .int (iI (x7))), (6, .int (iI (x6))), (5, .int (iI (x5))), (0, .ref (G.2.1 25)), (1, .int (iI (q))), (2, .int (iI (a))), (3, .int (iI (b)))]) hC.1 hC.2.1 d_md_close_240 hl (by decide) rfl (fun ls hl => ?_)
                              refine lv_iinc (v := iI (x5 + 1)) (lv' := [(5, .int (iI (x5 + 1))), (4, .int (iI (x4 + 0))), (7, .int (iI (x7))), (6, .int (iI (x6))), (0, .ref (G.2.1 25)), (1, .int (iI (q))), (2, .int (iI (a))), (3, .int (iI (b)))]) hC.1 hC.2.1 d_md_close_242 hl (k := 3) rfl (iI_add _ _) (by decide) rfl (fun ls hl => ?_)
                              refine lv_goto (tgt := 104) hC.1 hC.2.1 d_md_close_245 (by decide) ?_
                              exact ih_104 (n + 1) _ _ (by omega) (by rw [mCc_s, ← hx5]; first | (rw [if_pos (by omega)]; omega) | (rw [if_neg (by omega)]; omega) | (cases hq1 : mEe (mCs (mSa (s_up S 25 0 0) q a b) q a b n) q a b x5 <;> rw [hq1] at hee hei <;> simp [bI] at hee ⊢ <;> omega)) (by first | rfl | omega) (by omega) _ _ _ (by rw [mCs_s, ← hx5]; cases hq1 : mEe (mCs (mSa (s_up S 25 0 0) q a b) q a b n) q a b x5 <;> rw [hq1] at hee <;> simp [bI] at hee ⊢ <;> first | (exfalso; omega) | exact hw | (rw [if_pos (by omega)]; exact hw) | (rw [if_neg (by omega)]; exact hw)) (lv_sub hl [0, 1, 4, 5, 6, 7] rfl)
                            · skip
                              refine lv_iconst (v := iI 1) hC.1 hC.2.1 d_md_close_234 rfl ?_
                              refine lv_goto (tgt := 239) hC.1 hC.2.1 d_md_close_235 (by decide) ?_
                              refine ir_add hC.1 hC.2.1 d_md_close_239 ?_
                              refine lv_istore (lv' := [(4, .int (iI (x4 + 1))), (7, .int (iI (x7))), (6, .int (iI (x6))), (5, .int (iI (x5))), (0, .ref (G.2.1 25)), (1, .int (iI (q))), (2, .int (iI (a))), (3, .int (iI (b)))]) hC.1 hC.2.1 d_md_close_240 hl (by decide) rfl (fun ls hl => ?_)
                              refine lv_iinc (v := iI (x5 + 1)) (lv' := [(5, .int (iI (x5 + 1))), (4, .int (iI (x4 + 1))), (7, .int (iI (x7))), (6, .int (iI (x6))), (0, .ref (G.2.1 25)), (1, .int (iI (q))), (2, .int (iI (a))), (3, .int (iI (b)))]) hC.1 hC.2.1 d_md_close_242 hl (k := 3) rfl (iI_add _ _) (by decide) rfl (fun ls hl => ?_)
                              refine lv_goto (tgt := 104) hC.1 hC.2.1 d_md_close_245 (by decide) ?_
                              exact ih_104 (n + 1) _ _ (by omega) (by rw [mCc_s, ← hx5]; first | (rw [if_pos (by omega)]; omega) | (rw [if_neg (by omega)]; omega) | (cases hq1 : mEe (mCs (mSa (s_up S 25 0 0) q a b) q a b n) q a b x5 <;> rw [hq1] at hee hei <;> simp [bI] at hee ⊢ <;> omega)) (by first | rfl | omega) (by omega) _ _ _ (by rw [mCs_s, ← hx5]; cases hq1 : mEe (mCs (mSa (s_up S 25 0 0) q a b) q a b n) q a b x5 <;> rw [hq1] at hee <;> simp [bI] at hee ⊢ <;> first | (exfalso; omega) | exact hw | (rw [if_pos (by omega)]; exact hw) | (rw [if_neg (by omega)]; exact hw)) (lv_sub hl [0, 1, 4, 5, 6, 7] rfl)
                          · skip
                            refine lv_iload hC.1 hC.2.1 d_md_close_216 (lv_at hl 1 rfl) ?_
                            refine ir_if_ne (tgt := 225) hC.1 hC.2.1 d_md_close_218 (by decide) ⟨by omega, by omega⟩ (fun c_48 => ?_) (fun c_48 => ?_)
                            · skip
                              refine lv_iconst (v := iI 0) hC.1 hC.2.1 d_md_close_225 rfl ?_
                              refine st_39 (x := 0) (z := x5) hC hw (by omega) (by omega) (by omega) d_md_close_226 (fun H locs hw => ?_)
                              have hI_49 := Inv.up (q := 39) (i := x5.toNat) (x := 0) (mCs_I hqI q a b n) (by omega) (show _ ≤ 1 from by omega)
                              refine lv_iload hC.1 hC.2.1 d_md_close_227 (lv_at hl 3 rfl) ?_
                              refine lv_iload hC.1 hC.2.1 d_md_close_229 (lv_at hl 1 rfl) ?_
                              refine ir_if_eq (tgt := 238) hC.1 hC.2.1 d_md_close_231 (by decide) ⟨by omega, by omega⟩ (fun c_50 => ?_) (fun c_50 => ?_)
                              · skip
                                refine lv_iconst (v := iI 0) hC.1 hC.2.1 d_md_close_238 rfl ?_
                                refine ir_add hC.1 hC.2.1 d_md_close_239 ?_
                                refine lv_istore (lv' := [(4, .int (iI (x4 + 0))), (7, .int (iI (x7))), (6, .int (iI (x6))), (5, .int (iI (x5))), (0, .ref (G.2.1 25)), (1, .int (iI (q))), (2, .int (iI (a))), (3, .int (iI (b)))]) hC.1 hC.2.1 d_md_close_240 hl (by decide) rfl (fun ls hl => ?_)
                                refine lv_iinc (v := iI (x5 + 1)) (lv' := [(5, .int (iI (x5 + 1))), (4, .int (iI (x4 + 0))), (7, .int (iI (x7))), (6, .int (iI (x6))), (0, .ref (G.2.1 25)), (1, .int (iI (q))), (2, .int (iI (a))), (3, .int (iI (b)))]) hC.1 hC.2.1 d_md_close_242 hl (k := 3) rfl (iI_add _ _) (by decide) rfl (fun ls hl => ?_)
                                refine lv_goto (tgt := 104) hC.1 hC.2.1 d_md_close_245 (by decide) ?_
                                exact ih_104 (n + 1) _ _ (by omega) (by rw [mCc_s, ← hx5]; first | (rw [if_pos (by omega)]; omega) | (rw [if_neg (by omega)]; omega) | (cases hq1 : mEe (mCs (mSa (s_up S 25 0 0) q a b) q a b n) q a b x5 <;> rw [hq1] at hee hei <;> simp [bI] at hee ⊢ <;> omega)) (by first | rfl | omega) (by omega) _ _ _ (by rw [mCs_s, ← hx5]; cases hq1 : mEe (mCs (mSa (s_up S 25 0 0) q a b) q a b n) q a b x5 <;> rw [hq1] at hee <;> simp [bI] at hee ⊢ <;> first | (exfalso; omega) | exact hw | (rw [if_pos (by omega)]; exact hw) | (rw [if_neg (by omega)]; exact hw)) (lv_sub hl [0, 1, 4, 5, 6, 7] rfl)
                              · skip
                                refine lv_iconst (v := iI 1) hC.1 hC.2.1 d_md_close_234 rfl ?_
                                refine lv_goto (tgt := 239) hC.1 hC.2.1 d_md_close_235 (by decide) ?_
                                refine ir_add hC.1 hC.2.1 d_md_close_239 ?_
                                refine lv_istore (lv' := [(4, .int (iI (x4 + 1))), (7, .int (iI (x7))), (6, .int (iI (x6))), (5, .int (iI (x5))), (0, .ref (G.2.1 25)), (1, .int (iI (q))), (2, .int (iI (a))), (3, .int (iI (b)))]) hC.1 hC.2.1 d_md_close_240 hl (by decide) rfl (fun ls hl => ?_)
                                refine lv_iinc (v := iI (x5 + 1)) (lv' := [(5, .int (iI (x5 + 1))), (4, .int (iI (x4 + 1))), (7, .int (iI (x7))), (6, .int (iI (x6))), (0, .ref (G.2.1 25)), (1, .int (iI (q))), (2, .int (iI (a))), (3, .int (iI (b)))]) hC.1 hC.2.1 d_md_close_242 hl (k := 3) rfl (iI_add _ _) (by decide) rfl (fun ls hl => ?_)
                                refine lv_goto (tgt := 104) hC.1 hC.2.1 d_md_close_245 (by decide) ?_
                                exact ih_104 (n + 1) _ _ (by omega) (by rw [mCc_s, ← hx5]; first | (rw [if_pos (by omega)]; omega) | (rw [if_neg (by omega)]; omega) | (cases hq1 : mEe (mCs (mSa (s_up S 25 0 0) q a b) q a b n) q a b x5 <;> rw [hq1] at hee hei <;> simp [bI] at hee ⊢ <;> omega)) (by first | rfl | omega) (by omega) _ _ _ (by rw [mCs_s, ← hx5]; cases hq1 : mEe (mCs (mSa (s_up S 25 0 0) q a b) q a b n) q a b x5 <;> rw [hq1] at hee <;> simp [bI] at hee ⊢ <;> first | (exfalso; omega) | exact hw | (rw [if_pos (by omega)]; exact hw) | (rw [if_neg (by omega)]; exact hw)) (lv_sub hl [0, 1, 4, 5, 6, 7] rfl)
                            · skip
                              refine lv_iconst (v := iI 1) hC.1 hC.2.1 d_md_close_221 rfl ?_
                              refine lv_goto (tgt := 226) hC.1 hC.2.1 d_md_close_222 (by decide) ?_
                              refine st_39 (x := 1) (z := x5) hC hw (by omega) (by omega) (by omega) d_md_close_226 (fun H locs hw => ?_)
                              have hI_51 := Inv.up (q := 39) (i := x5.toNat) (x := 1) (mCs_I hqI q a b n) (by omega) (show _ ≤ 1 from by omega)
                              refine lv_iload hC.1 hC.2.1 d_md_close_227 (lv_at hl 3 rfl) ?_
                              refine lv_iload hC.1 hC.2.1 d_md_close_229 (lv_at hl 1 rfl) ?_
                              refine ir_if_eq (tgt := 238) hC.1 hC.2.1 d_md_close_231 (by decide) ⟨by omega, by omega⟩ (fun c_52 => ?_) (fun c_52 => ?_)
                              · skip
                                refine lv_iconst (v := iI 0) hC.1 hC.2.1 d_md_close_238 rfl ?_
                                refine ir_add hC.1 hC.2.1 d_md_close_239 ?_
                                refine lv_istore (lv' := [(4, .int (iI (x4 + 0))), (7, .int (iI (x7))), (6, .int (iI (x6))), (5, .int (iI (x5))), (0, .ref (G.2.1 25)), (1, .int (iI (q))), (2, .int (iI (a))), (3, .int (iI (b)))]) hC.1 hC.2.1 d_md_close_240 hl (by decide) rfl (fun ls hl => ?_)
                                refine lv_iinc (v := iI (x5 + 1)) (lv' := [(5, .int (iI (x5 + 1))), (4, .int (iI (x4 + 0))), (7, .int (iI (x7))), (6, .int (iI (x6))), (0, .ref (G.2.1 25)), (1, .int (iI (q))), (2, .int (iI (a))), (3, .int (iI (b)))]) hC.1 hC.2.1 d_md_close_242 hl (k := 3) rfl (iI_add _ _) (by decide) rfl (fun ls hl => ?_)
                                refine lv_goto (tgt := 104) hC.1 hC.2.1 d_md_close_245 (by decide) ?_
                                exact ih_104 (n + 1) _ _ (by omega) (by rw [mCc_s, ← hx5]; first | (rw [if_pos (by omega)]; omega) | (rw [if_neg (by omega)]; omega) | (cases hq1 : mEe (mCs (mSa (s_up S 25 0 0) q a b) q a b n) q a b x5 <;> rw [hq1] at hee hei <;> simp [bI] at hee ⊢ <;> omega)) (by first | rfl | omega) (by omega) _ _ _ (by rw [mCs_s, ← hx5]; cases hq1 : mEe (mCs (mSa (s_up S 25 0 0) q a b) q a b n) q a b x5 <;> rw [hq1] at hee <;> simp [bI] at hee ⊢ <;> first | (exfalso; omega) | exact hw | (rw [if_pos (by omega)]; exact hw) | (rw [if_neg (by omega)]; exact hw)) (lv_sub hl [0, 1, 4, 5, 6, 7] rfl)
                              · skip
                                refine lv_iconst (v := iI 1) hC.1 hC.2.1 d_md_close_234 rfl ?_
                                refine lv_goto (tgt := 239) hC.1 hC.2.1 d_md_close_235 (by decide) ?_
                                refine ir_add hC.1 hC.2.1 d_md_close_239 ?_
                                refine lv_istore (lv' := [(4, .int (iI (x4 + 1))), (7, .int (iI (x7))), (6, .int (iI (x6))), (5, .int (iI (x5))), (0, .ref (G.2.1 25)), (1, .int (iI (q))), (2, .int (iI (a))), (3, .int (iI (b)))]) hC.1 hC.2.1 d_md_close_240 hl (by decide) rfl (fun ls hl => ?_)
                                refine lv_iinc (v := iI (x5 + 1)) (lv' := [(5, .int (iI (x5 + 1))), (4, .int (iI (x4 + 1))), (7, .int (iI (x7))), (6, .int (iI (x6))), (0, .ref (G.2.1 25)), (1, .int (iI (q))), (2, .int (iI (a))), (3, .int (iI (b)))]) hC.1 hC.2.1 d_md_close_242 hl (k := 3) rfl (iI_add _ _) (by decide) rfl (fun ls hl => ?_)
                                refine lv_goto (tgt := 104) hC.1 hC.2.1 d_md_close_245 (by decide) ?_
                                exact ih_104 (n + 1) _ _ (by omega) (by rw [mCc_s, ← hx5]; first | (rw [if_pos (by omega)]; omega) | (rw [if_neg (by omega)]; omega) | (cases hq1 : mEe (mCs (mSa (s_up S 25 0 0) q a b) q a b n) q a b x5 <;> rw [hq1] at hee hei <;> simp [bI] at hee ⊢ <;> omega)) (by first | rfl | omega) (by omega) _ _ _ (by rw [mCs_s, ← hx5]; cases hq1 : mEe (mCs (mSa (s_up S 25 0 0) q a b) q a b n) q a b x5 <;> rw [hq1] at hee <;> simp [bI] at hee ⊢ <;> first | (exfalso; omega) | exact hw | (rw [if_pos (by omega)]; exact hw) | (rw [if_neg (by omega)]; exact hw)) (lv_sub hl [0, 1, 4, 5, 6, 7] rfl)
                        · skip
                          refine lv_iload hC.1 hC.2.1 d_md_close_141 (lv_at hl 1 rfl) ?_
                          refine ir_if_ne (tgt := 187) hC.1 hC.2.1 d_md_close_143 (by decide) ⟨by omega, by omega⟩ (fun c_53 => ?_) (fun c_53 => ?_)
                          · skip
                            refine lv_iconst (v := iI 1) hC.1 hC.2.1 d_md_close_187 rfl ?_
                            refine lv_goto (tgt := 192) hC.1 hC.2.1 d_md_close_188 (by decide) ?_
                            refine lv_istore (lv' := [(6, .int (iI (1))), (7, .int (iI (x7))), (5, .int (iI (x5))), (4, .int (iI (x4))), (0, .ref (G.2.1 25)), (1, .int (iI (q))), (2, .int (iI (a))), (3, .int (iI (b)))]) hC.1 hC.2.1 d_md_close_192 hl (by decide) rfl (fun ls hl => ?_)
                            refine lv_iinc (v := iI (x7 + 1)) (lv' := [(7, .int (iI (x7 + 1))), (6, .int (iI (1))), (5, .int (iI (x5))), (4, .int (iI (x4))), (0, .ref (G.2.1 25)), (1, .int (iI (q))), (2, .int (iI (a))), (3, .int (iI (b)))]) hC.1 hC.2.1 d_md_close_194 hl (k := 1) rfl (iI_add _ _) (by decide) rfl (fun ls hl => ?_)
                            refine lv_goto (tgt := 119) hC.1 hC.2.1 d_md_close_197 (by decide) ?_
                            exact ih_119 (j + 1) _ _ (by omega) (by rw [mEd_s, ← hx7]; cases hd : mEd (mCs (mSa (s_up S 25 0 0) q a b) q a b n) q a b x5 j <;> rw [hd] at hx6 <;> simp [bI] at hx6 ⊢ <;> (try omega) <;> (intros; omega)) (by first | rfl | omega) (by omega) (by omega) _ _ _ hw (lv_sub hl [0, 1, 2, 3, 4, 5, 6, 7] rfl)
                          · skip
                            refine lv_aload_n hC.1 hC.2.1 d_md_close_146 rfl (lv_at hl 4 rfl) ?_
                            refine gf_md_56 hC hw d_md_close_147 ?_
                            refine lv_bipush (v := iI 8) hC.1 hC.2.1 d_md_close_150 (by decide +kernel) ?_
                            refine lv_iload hC.1 hC.2.1 d_md_close_152 (lv_at hl 2 rfl) ?_
                            refine ir_mul hC.1 hC.2.1 d_md_close_154 ?_
                            refine lv_iload hC.1 hC.2.1 d_md_close_155 (lv_at hl 0 rfl) ?_
                            refine ir_add hC.1 hC.2.1 d_md_close_157 ?_
                            refine ld_41 hC hw (by omega) (by omega) d_md_close_158 ?_
                            have b_54 := iv_41 (mCs_I hqI q a b n) (((8 * x5) + x7).toNat)
                            have z_55 : (mCs (mSa (s_up S 25 0 0) q a b) q a b n) 41 ((8 * x5) + x7).toNat = (mCs (mSa (s_up S 25 0 0) q a b) q a b n) 41 ((8 * x5) + x7).toNat := rfl
                            conv at z_55 => rhs; (try simp [s_up_at])
                            refine lv_iload_n hC.1 hC.2.1 d_md_close_159 rfl (lv_at hl 5 rfl) ?_
                            refine ir_ne (tgt := 191) hC.1 hC.2.1 d_md_close_160 (by decide) ⟨by omega, by omega⟩ ⟨by omega, by omega⟩ (fun c_56 => ?_) (fun c_56 => ?_)
                            · skip
                              refine lv_iconst (v := iI 0) hC.1 hC.2.1 d_md_close_191 rfl ?_
                              refine lv_istore (lv' := [(6, .int (iI (0))), (7, .int (iI (x7))), (5, .int (iI (x5))), (4, .int (iI (x4))), (0, .ref (G.2.1 25)), (1, .int (iI (q))), (2, .int (iI (a))), (3, .int (iI (b)))]) hC.1 hC.2.1 d_md_close_192 hl (by decide) rfl (fun ls hl => ?_)
                              refine lv_iinc (v := iI (x7 + 1)) (lv' := [(7, .int (iI (x7 + 1))), (6, .int (iI (0))), (5, .int (iI (x5))), (4, .int (iI (x4))), (0, .ref (G.2.1 25)), (1, .int (iI (q))), (2, .int (iI (a))), (3, .int (iI (b)))]) hC.1 hC.2.1 d_md_close_194 hl (k := 1) rfl (iI_add _ _) (by decide) rfl (fun ls hl => ?_)
                              refine lv_goto (tgt := 119) hC.1 hC.2.1 d_md_close_197 (by decide) ?_
                              exact ih_119 (j + 1) _ _ (by omega) (by rw [mEd_s, ← hx7]; cases hd : mEd (mCs (mSa (s_up S 25 0 0) q a b) q a b n) q a b x5 j <;> rw [hd] at hx6 <;> simp [bI] at hx6 ⊢ <;> (try omega) <;> (intros; omega)) (by first | rfl | omega) (by omega) (by omega) _ _ _ hw (lv_sub hl [0, 1, 2, 3, 4, 5, 6, 7] rfl)
                            · skip
                              refine lv_aload_n hC.1 hC.2.1 d_md_close_163 rfl (lv_at hl 4 rfl) ?_
                              refine lv_iload hC.1 hC.2.1 d_md_close_164 (lv_at hl 2 rfl) ?_
                              refine lv_iload hC.1 hC.2.1 d_md_close_166 (lv_at hl 0 rfl) ?_
                              refine go_R (ca_V (As := [.int (iI (x5)), .int (iI (x7))]) (rest := []) hC hw (c_md_enters l G (mCs (mSa (s_up S 25 0 0) q a b) q a b n) x5 x7 (mCs_I hqI q a b n) (by omega) (by omega) (so1 (by omega))) (cv_md_119 hC rfl rfl (Nat.le_of_ble_eq_true rfl) (Nat.le_of_ble_eq_true rfl)) (by decide) rfl rfl rfl hl.1 rfl (Nat.le_of_ble_eq_true rfl) d_md_close_168 ⟨Nat.le_of_ble_eq_true rfl, Nat.le_of_ble_eq_true rfl⟩) ?_
                              have r_57 := mEn_b (mCs_I hqI q a b n) x5 (show 1 ≤ (mCs (mSa (s_up S 25 0 0) q a b) q a b n) 35 ((mCs (mSa (s_up S 25 0 0) q a b) q a b n) 37 x5.toNat).toNat by omega) x7.toNat (by omega)
                              refine lv_iload_n hC.1 hC.2.1 d_md_close_171 rfl (lv_at hl 7 rfl) ?_
                              refine ir_ge (tgt := 191) hC.1 hC.2.1 d_md_close_172 (by decide) ⟨by omega, by omega⟩ ⟨by omega, by omega⟩ (fun c_58 => ?_) (fun c_58 => ?_)
                              · skip
                                refine lv_iconst (v := iI 0) hC.1 hC.2.1 d_md_close_191 rfl ?_
                                refine lv_istore (lv' := [(6, .int (iI (0))), (7, .int (iI (x7))), (5, .int (iI (x5))), (4, .int (iI (x4))), (0, .ref (G.2.1 25)), (1, .int (iI (q))), (2, .int (iI (a))), (3, .int (iI (b)))]) hC.1 hC.2.1 d_md_close_192 hl (by decide) rfl (fun ls hl => ?_)
                                refine lv_iinc (v := iI (x7 + 1)) (lv' := [(7, .int (iI (x7 + 1))), (6, .int (iI (0))), (5, .int (iI (x5))), (4, .int (iI (x4))), (0, .ref (G.2.1 25)), (1, .int (iI (q))), (2, .int (iI (a))), (3, .int (iI (b)))]) hC.1 hC.2.1 d_md_close_194 hl (k := 1) rfl (iI_add _ _) (by decide) rfl (fun ls hl => ?_)
                                refine lv_goto (tgt := 119) hC.1 hC.2.1 d_md_close_197 (by decide) ?_
                                exact ih_119 (j + 1) _ _ (by omega) (by rw [mEd_s, ← hx7]; cases hd : mEd (mCs (mSa (s_up S 25 0 0) q a b) q a b n) q a b x5 j <;> rw [hd] at hx6 <;> simp [bI] at hx6 ⊢ <;> (try omega) <;> (intros; omega)) (by first | rfl | omega) (by omega) (by omega) _ _ _ hw (lv_sub hl [0, 1, 2, 3, 4, 5, 6, 7] rfl)
                              · skip
                                refine lv_iload_n hC.1 hC.2.1 d_md_close_175 rfl (lv_at hl 6 rfl) ?_
                                refine lv_aload_n hC.1 hC.2.1 d_md_close_176 rfl (lv_at hl 4 rfl) ?_
                                refine lv_iload hC.1 hC.2.1 d_md_close_177 (lv_at hl 2 rfl) ?_
                                refine lv_iload hC.1 hC.2.1 d_md_close_179 (lv_at hl 0 rfl) ?_
                                refine go_R (ca_V (As := [.int (iI (x5)), .int (iI (x7))]) (rest := [.int (iI (a))]) hC hw (c_md_leaves l G (mCs (mSa (s_up S 25 0 0) q a b) q a b n) x5 x7 (mCs_I hqI q a b n) (by omega) (by omega) (so1 (by omega))) (cv_md_122 hC rfl rfl (Nat.le_of_ble_eq_true rfl) (Nat.le_of_ble_eq_true rfl)) (by decide) rfl rfl rfl hl.1 rfl (Nat.le_of_ble_eq_true rfl) d_md_close_181 ⟨Nat.le_of_ble_eq_true rfl, Nat.le_of_ble_eq_true rfl⟩) ?_
                                have r_59 := mLv_b (mCs_I hqI q a b n) x5 (show 1 ≤ (mCs (mSa (s_up S 25 0 0) q a b) q a b n) 35 ((mCs (mSa (s_up S 25 0 0) q a b) q a b n) 37 x5.toNat).toNat by omega) x7 (by omega)
                                refine ir_ge (tgt := 191) hC.1 hC.2.1 d_md_close_184 (by decide) ⟨by omega, by omega⟩ ⟨by omega, by omega⟩ (fun c_60 => ?_) (fun c_60 => ?_)
                                · skip
                                  refine lv_iconst (v := iI 0) hC.1 hC.2.1 d_md_close_191 rfl ?_
                                  refine lv_istore (lv' := [(6, .int (iI (0))), (7, .int (iI (x7))), (5, .int (iI (x5))), (4, .int (iI (x4))), (0, .ref (G.2.1 25)), (1, .int (iI (q))), (2, .int (iI (a))), (3, .int (iI (b)))]) hC.1 hC.2.1 d_md_close_192 hl (by decide) rfl (fun ls hl => ?_)
                                  refine lv_iinc (v := iI (x7 + 1)) (lv' := [(7, .int (iI (x7 + 1))), (6, .int (iI (0))), (5, .int (iI (x5))), (4, .int (iI (x4))), (0, .ref (G.2.1 25)), (1, .int (iI (q))), (2, .int (iI (a))), (3, .int (iI (b)))]) hC.1 hC.2.1 d_md_close_194 hl (k := 1) rfl (iI_add _ _) (by decide) rfl (fun ls hl => ?_)
                                  refine lv_goto (tgt := 119) hC.1 hC.2.1 d_md_close_197 (by decide) ?_
                                  exact ih_119 (j + 1) _ _ (by omega) (by rw [mEd_s, ← hx7]; cases hd : mEd (mCs (mSa (s_up S 25 0 0) q a b) q a b n) q a b x5 j <;> rw [hd] at hx6 <;> simp [bI] at hx6 ⊢ <;> (try omega) <;> (intros; omega)) (by first | rfl | omega) (by omega) (by omega) _ _ _ hw (lv_sub hl [0, 1, 2, 3, 4, 5, 6, 7] rfl)
                                · skip
                                  refine lv_iconst (v := iI 1) hC.1 hC.2.1 d_md_close_187 rfl ?_
                                  refine lv_goto (tgt := 192) hC.1 hC.2.1 d_md_close_188 (by decide) ?_
                                  refine lv_istore (lv' := [(6, .int (iI (1))), (7, .int (iI (x7))), (5, .int (iI (x5))), (4, .int (iI (x4))), (0, .ref (G.2.1 25)), (1, .int (iI (q))), (2, .int (iI (a))), (3, .int (iI (b)))]) hC.1 hC.2.1 d_md_close_192 hl (by decide) rfl (fun ls hl => ?_)
                                  refine lv_iinc (v := iI (x7 + 1)) (lv' := [(7, .int (iI (x7 + 1))), (6, .int (iI (1))), (5, .int (iI (x5))), (4, .int (iI (x4))), (0, .ref (G.2.1 25)), (1, .int (iI (q))), (2, .int (iI (a))), (3, .int (iI (b)))]) hC.1 hC.2.1 d_md_close_194 hl (k := 1) rfl (iI_add _ _) (by decide) rfl (fun ls hl => ?_)
                                  refine lv_goto (tgt := 119) hC.1 hC.2.1 d_md_close_197 (by decide) ?_
                                  exact ih_119 (j + 1) _ _ (by omega) (by rw [mEd_s, ← hx7]; cases hd : mEd (mCs (mSa (s_up S 25 0 0) q a b) q a b n) q a b x5 j <;> rw [hd] at hx6 <;> simp [bI] at hx6 ⊢ <;> (try omega) <;> (intros; omega)) (by first | rfl | omega) (by omega) (by omega) _ _ _ hw (lv_sub hl [0, 1, 2, 3, 4, 5, 6, 7] rfl)
                  exact loop_119 _ 0 _ _ (Nat.lt_succ_self _) (by first | rfl | omega) (by first | rfl | omega) (by have := iv_40 (mCs_I hqI q a b n) x5.toNat; omega) (by omega) _ _ _ hw (lv_sub hl [0, 1, 2, 3, 4, 5, 6, 7] rfl)
            exact loop_104 _ 0 _ _ (Nat.lt_succ_self _) (by first | rfl | omega) (by first | rfl | omega) (by omega) _ _ _ (by rw [← hq0] at hw; exact hw) (lv_sub hl [0, 1, 2, 3, 4, 5] rfl)
          · skip
            refine lv_aload_n hC.1 hC.2.1 d_md_close_45 rfl (lv_at hl 0 rfl) ?_
            refine lv_iconst (v := iI 2) hC.1 hC.2.1 d_md_close_46 rfl ?_
            refine go_W (ca_V (As := [.int (iI (2))]) (rest := []) hC hw (c_md_fails l G S 2 (by omega)) (cv_md_90 hC rfl rfl (Nat.le_of_ble_eq_true rfl) (Nat.le_of_ble_eq_true rfl)) (by decide) rfl rfl rfl hl.1 rfl (Nat.le_of_ble_eq_true rfl) d_md_close_47 ⟨Nat.le_of_ble_eq_true rfl, Nat.le_of_ble_eq_true rfl⟩) hw (fun H locs hw => ?_)
            have hk_61 : kmX S q a b = 2 := (by first | (simp [kmX, c_1, c_4, c_7, c_10, c_12]; done) | (simp [kmX, c_1, c_4, c_7, c_10, c_12]; omega) | (simp [kmX, c_1, c_4, c_7, c_10, c_12]; done) | (simp [kmX, c_1, c_4, c_7, c_10, c_12]; omega) | (simp [kmX, c_1, c_4, c_7]; done) | (simp [kmX, c_1, c_4, c_7]; omega) | omega)
            exact rt_W hC hr hlk hw (by rw [if_neg (by omega)]) (by rw [if_neg (by omega), hk_61]) d_md_close_50
        · skip
          refine lv_aload_n hC.1 hC.2.1 d_md_close_29 rfl (lv_at hl 0 rfl) ?_
          refine lv_iconst (v := iI 1) hC.1 hC.2.1 d_md_close_30 rfl ?_
          refine go_W (ca_V (As := [.int (iI (1))]) (rest := []) hC hw (c_md_fails l G S 1 (by omega)) (cv_md_90 hC rfl rfl (Nat.le_of_ble_eq_true rfl) (Nat.le_of_ble_eq_true rfl)) (by decide) rfl rfl rfl hl.1 rfl (Nat.le_of_ble_eq_true rfl) d_md_close_31 ⟨Nat.le_of_ble_eq_true rfl, Nat.le_of_ble_eq_true rfl⟩) hw (fun H locs hw => ?_)
          have hk_62 : kmX S q a b = 1 := (by first | (simp [kmX, c_1, c_4, c_7, c_10]; done) | (simp [kmX, c_1, c_4, c_7, c_10]; omega) | (simp [kmX, c_1, c_4, c_7, c_10]; done) | (simp [kmX, c_1, c_4, c_7, c_10]; omega) | (simp [kmX, c_1, c_4, c_7]; done) | (simp [kmX, c_1, c_4, c_7]; omega) | omega)
          exact rt_W hC hr hlk hw (by rw [if_neg (by omega)]) (by rw [if_neg (by omega), hk_62]) d_md_close_34

/-! the reference's face -/
def kmP (S : St) (a b n w : Int) : Int := if wn a 0 7 = true ∧ wn b 0 7 = true ∧ ¬ a = b ∧ wn n 1 100 = true ∧ wn w 1 100 = true then (if S 25 1 = 12 then 2 else 0) else 1
def mAdd (T : St) (a b n w : Int) : St := s_up (s_up (s_up (s_up (s_up (s_up T 26 (T 25 1).toNat a) 27 (T 25 1).toNat b) 28 (T 25 1).toNat n) 29 (T 25 1).toNat w) 30 (5 * T 25 1 + 2).toNat 100) 25 1 (T 25 1 + 1)
def kmS (S : St) (a b d : Int) : Int := if wn a 1 100 = true ∧ wn b 1 20 = true ∧ wn d 0 2 = true then (if S 25 10 = 12 then 2 else 0) else 1
def mSh (T : St) (a b d : Int) : St := s_up (s_up (s_up (s_up T 34 (T 25 10).toNat a) 35 (T 25 10).toNat b) 36 (T 25 10).toNat d) 25 10 (T 25 10 + 1)
def mRu (T : St) (q k v : Int) : Bool := wn q 0 (T 25 1 - 1) && (wn k 0 4 && (if k < 2 then wn v 0 2 else if k = 2 then wn v 0 100 else wn v 0 1))
def kmR (S : St) (sh a b w : Int) : Int := if wn sh 0 (S 25 10 - 1) = true ∧ wn a 0 7 = true ∧ wn b 0 7 = true ∧ wn w 0 2 = true then 0 else 1
def mRo (T : St) (sh a b w : Int) : Int := if (mLy T sh a b).2 = false then -1 else if w = 0 then (mLy T sh a b).1 43 a.toNat else if w = 1 then (mLy T sh a b).1 41 0 else (mLy T sh a b).1 40 0
def kmC (S : St) (k t : Int) : Int := if wn k 1 (S 25 16) = true ∧ wn t (S 25 15) 100000 = true then 0 else 1
def mChR (T : St) (k t : Int) : Int := if T 39 k.toNat = 0 ∨ T 38 k.toNat ≤ T 25 15 then -1 else if 0 < mAg (s_up T 38 k.toNat t) k k 0 (s_up T 38 k.toNat t 40 k.toNat).toNat then 0 else 1
def mChS (T : St) (k t : Int) : St := if T 39 k.toNat = 0 ∨ T 38 k.toNat ≤ T 25 15 then T else if 0 < mAg (s_up T 38 k.toNat t) k k 0 (s_up T 38 k.toNat t 40 k.toNat).toNat then s_up (s_up T 38 k.toNat t) 38 k.toNat (T 38 k.toNat) else s_up T 38 k.toNat t
def kmT (S : St) (k i w : Int) : Int := if wn k 1 (S 25 16) = true ∧ 0 ≤ i ∧ i < S 40 k.toNat ∧ wn w 0 3 = true then 0 else 1
def mAtR (T : St) (k i w : Int) : Int := if w = 0 then T 41 (8 * k + i).toNat else if w = 1 then mEn T k i.toNat else if w = 2 then mLv T k i else T 42 (8 * k + i).toNat
def mGs (T : St) : Nat → Int
  | 0 => 0
  | n + 1 => mGs T n + if T 39 ((n : Int) + 1).toNat = 0 then 0 else 1
theorem mGs_s (T : St) (n : Nat) : mGs T (n + 1) = mGs T n + if T 39 ((n : Int) + 1).toNat = 0 then 0 else 1 := rfl
theorem mGs_b (T : St) (n : Nat) : 0 ≤ mGs T n ∧ mGs T n ≤ (n : Int) := by
  induction n with
  | zero => simp [mGs]
  | succ n ih => rw [mGs_s]; split <;> omega
def mCn (T : St) (k : Int) : Int := if 20 ≤ k then (if wn (k - 20) 1 (T 25 16) = true then (if T 39 (k - 20).toNat = 0 then 0 else 1) else -1) else if k = 0 then T 25 1 else if k = 1 then T 25 10 else if k = 2 then T 25 16 else if k = 3 then mGs T (T 25 16).toNat else if k = 4 then T 25 15 else if k = 5 then mCf T 1000000 (-1) else if k = 6 then (if T 25 14 = 0 then 0 else 1) else -1
def mBk (T : St) (k : Int) : Bool := wn k 1 (T 25 16) && (!decide (T 39 k.toNat = 0) && decide (T 25 15 < T 38 k.toNat))
set_option maxHeartbeats 4000000 in
set_option maxRecDepth 100000 in
theorem c_md_piece (l : Launch) (G : Gt) (S : St) (a : Int) (b : Int) (n : Int) (w : Int) (hI : Inv S) (ha : i32 a) (hb : i32 b) (hn : i32 n) (hw : i32 w) : Met l y_md_piece [.code y_md_piece b_md_piece 5 (some .int)] { frames := 1, cells := 0, slots := 0, locals := 22 } (va_Pc [.ref (G.2.1 25), .int (iI (a)), .int (iI (b)), .int (iI (n)), .int (iI (w))] (fun U => wu G S U)) (qW G (if kmP S a b n w = 0 then mAdd (s_up S 25 0 0) a b n w else s_up S 25 0 (kmP S a b n w)) (if kmP S a b n w = 0 then S 25 1 else 0)) 0 0 (gA G) := by
  refine mt_of (by decide +kernel) (Nat.le_of_ble_eq_true rfl) ?_
  intro p e s m below meth c ls hadm hC hr hlk hex hw hl
  have hC : CallFix p m c b_md_piece 5 s _ tws "ChannelRulesModel" := hC
  have hl : lv_has ls 5 [(0, .ref (G.2.1 25)), (1, .int (iI (a))), (2, .int (iI (b))), (3, .int (iI (n))), (4, .int (iI (w)))] := hl
  have i1 := iv_25p hI
  refine lv_iload_n hC.1 hC.2.1 d_md_piece_0 rfl (lv_at hl 1 rfl) ?_
  refine go_R (ca_S (As := [.int (iI (a))]) (rest := []) hC hw (c_md_isPoint l G S a (by omega)) (cv_md_82 hC rfl rfl (Nat.le_of_ble_eq_true rfl) (Nat.le_of_ble_eq_true rfl)) rfl hl.1 rfl (Nat.le_of_ble_eq_true rfl) d_md_piece_1 ⟨Nat.le_of_ble_eq_true rfl, Nat.le_of_ble_eq_true rfl⟩) ?_
  refine ir_beq (tgt := 40) hC d_md_piece_4 (by decide) (fun c_1 => ?_) (fun c_1 => ?_)
  · skip
    refine lv_aload_n hC.1 hC.2.1 d_md_piece_40 rfl (lv_at hl 0 rfl) ?_
    refine lv_iconst (v := iI 1) hC.1 hC.2.1 d_md_piece_41 rfl ?_
    refine go_W (ca_V (As := [.int (iI (1))]) (rest := []) hC hw (c_md_fails l G S 1 (by omega)) (cv_md_90 hC rfl rfl (Nat.le_of_ble_eq_true rfl) (Nat.le_of_ble_eq_true rfl)) (by decide) rfl rfl rfl hl.1 rfl (Nat.le_of_ble_eq_true rfl) d_md_piece_42 ⟨Nat.le_of_ble_eq_true rfl, Nat.le_of_ble_eq_true rfl⟩) hw (fun H locs hw => ?_)
    have hk_2 : kmP S a b n w = 1 := (by first | (simp [kmP, c_1]; done) | (simp [kmP, c_1]; omega) | (simp [kmP, c_1]; done) | (simp [kmP, c_1]; omega) | (simp [kmP, c_1]; done) | (simp [kmP, c_1]; omega) | omega)
    exact rt_W hC hr hlk hw (by rw [if_neg (by omega)]) (by rw [if_neg (by omega), hk_2]) d_md_piece_45
  · skip
    have w_3 := wn_t c_1
    refine lv_iload_n hC.1 hC.2.1 d_md_piece_7 rfl (lv_at hl 2 rfl) ?_
    refine go_R (ca_S (As := [.int (iI (b))]) (rest := []) hC hw (c_md_isPoint l G S b (by omega)) (cv_md_82 hC rfl rfl (Nat.le_of_ble_eq_true rfl) (Nat.le_of_ble_eq_true rfl)) rfl hl.1 rfl (Nat.le_of_ble_eq_true rfl) d_md_piece_8 ⟨Nat.le_of_ble_eq_true rfl, Nat.le_of_ble_eq_true rfl⟩) ?_
    refine ir_beq (tgt := 40) hC d_md_piece_11 (by decide) (fun c_4 => ?_) (fun c_4 => ?_)
    · skip
      refine lv_aload_n hC.1 hC.2.1 d_md_piece_40 rfl (lv_at hl 0 rfl) ?_
      refine lv_iconst (v := iI 1) hC.1 hC.2.1 d_md_piece_41 rfl ?_
      refine go_W (ca_V (As := [.int (iI (1))]) (rest := []) hC hw (c_md_fails l G S 1 (by omega)) (cv_md_90 hC rfl rfl (Nat.le_of_ble_eq_true rfl) (Nat.le_of_ble_eq_true rfl)) (by decide) rfl rfl rfl hl.1 rfl (Nat.le_of_ble_eq_true rfl) d_md_piece_42 ⟨Nat.le_of_ble_eq_true rfl, Nat.le_of_ble_eq_true rfl⟩) hw (fun H locs hw => ?_)
      have hk_5 : kmP S a b n w = 1 := (by first | (simp [kmP, c_1, c_4]; done) | (simp [kmP, c_1, c_4]; omega) | (simp [kmP, c_1, c_4]; done) | (simp [kmP, c_1, c_4]; omega) | (simp [kmP, c_1, c_4]; done) | (simp [kmP, c_1, c_4]; omega) | omega)
      exact rt_W hC hr hlk hw (by rw [if_neg (by omega)]) (by rw [if_neg (by omega), hk_5]) d_md_piece_45
    · skip
      have w_6 := wn_t c_4
      refine lv_iload_n hC.1 hC.2.1 d_md_piece_14 rfl (lv_at hl 1 rfl) ?_
      refine lv_iload_n hC.1 hC.2.1 d_md_piece_15 rfl (lv_at hl 2 rfl) ?_
      refine ir_eq (tgt := 40) hC.1 hC.2.1 d_md_piece_16 (by decide) ⟨by omega, by omega⟩ ⟨by omega, by omega⟩ (fun c_7 => ?_) (fun c_7 => ?_)
      · skip
        refine lv_aload_n hC.1 hC.2.1 d_md_piece_40 rfl (lv_at hl 0 rfl) ?_
        refine lv_iconst (v := iI 1) hC.1 hC.2.1 d_md_piece_41 rfl ?_
        refine go_W (ca_V (As := [.int (iI (1))]) (rest := []) hC hw (c_md_fails l G S 1 (by omega)) (cv_md_90 hC rfl rfl (Nat.le_of_ble_eq_true rfl) (Nat.le_of_ble_eq_true rfl)) (by decide) rfl rfl rfl hl.1 rfl (Nat.le_of_ble_eq_true rfl) d_md_piece_42 ⟨Nat.le_of_ble_eq_true rfl, Nat.le_of_ble_eq_true rfl⟩) hw (fun H locs hw => ?_)
        have hk_8 : kmP S a b n w = 1 := (by first | (simp [kmP, c_1, c_4, c_7]; done) | (simp [kmP, c_1, c_4, c_7]; omega) | (simp [kmP, c_1, c_4, c_7]; done) | (simp [kmP, c_1, c_4, c_7]; omega) | (simp [kmP, c_1, c_4]; done) | (simp [kmP, c_1, c_4]; omega) | omega)
        exact rt_W hC hr hlk hw (by rw [if_neg (by omega)]) (by rw [if_neg (by omega), hk_8]) d_md_piece_45
      · skip
        refine lv_iload_n hC.1 hC.2.1 d_md_piece_19 rfl (lv_at hl 3 rfl) ?_
        refine lv_iconst (v := iI 1) hC.1 hC.2.1 d_md_piece_20 rfl ?_
        refine lv_bipush (v := iI 100) hC.1 hC.2.1 d_md_piece_21 (by decide +kernel) ?_
        refine go_R (ca_S (As := [.int (iI (n)), .int (iI (1)), .int (iI (100))]) (rest := []) hC hw (c_md_in l G S n 1 100 (by omega) (by omega) (by omega)) (cv_md_86 hC rfl rfl (Nat.le_of_ble_eq_true rfl) (Nat.le_of_ble_eq_true rfl)) rfl hl.1 rfl (Nat.le_of_ble_eq_true rfl) d_md_piece_23 ⟨Nat.le_of_ble_eq_true rfl, Nat.le_of_ble_eq_true rfl⟩) ?_
        refine ir_beq (tgt := 40) hC d_md_piece_26 (by decide) (fun c_9 => ?_) (fun c_9 => ?_)
        · skip
          refine lv_aload_n hC.1 hC.2.1 d_md_piece_40 rfl (lv_at hl 0 rfl) ?_
          refine lv_iconst (v := iI 1) hC.1 hC.2.1 d_md_piece_41 rfl ?_
          refine go_W (ca_V (As := [.int (iI (1))]) (rest := []) hC hw (c_md_fails l G S 1 (by omega)) (cv_md_90 hC rfl rfl (Nat.le_of_ble_eq_true rfl) (Nat.le_of_ble_eq_true rfl)) (by decide) rfl rfl rfl hl.1 rfl (Nat.le_of_ble_eq_true rfl) d_md_piece_42 ⟨Nat.le_of_ble_eq_true rfl, Nat.le_of_ble_eq_true rfl⟩) hw (fun H locs hw => ?_)
          have hk_10 : kmP S a b n w = 1 := (by first | (simp [kmP, c_1, c_4, c_7, c_9]; done) | (simp [kmP, c_1, c_4, c_7, c_9]; omega) | (simp [kmP, c_1, c_4, c_7, c_9]; done) | (simp [kmP, c_1, c_4, c_7, c_9]; omega) | (simp [kmP, c_1, c_4, c_9]; done) | (simp [kmP, c_1, c_4, c_9]; omega) | omega)
          exact rt_W hC hr hlk hw (by rw [if_neg (by omega)]) (by rw [if_neg (by omega), hk_10]) d_md_piece_45
        · skip
          have w_11 := wn_t c_9
          refine lv_iload hC.1 hC.2.1 d_md_piece_29 (lv_at hl 4 rfl) ?_
          refine lv_iconst (v := iI 1) hC.1 hC.2.1 d_md_piece_31 rfl ?_
          refine lv_bipush (v := iI 100) hC.1 hC.2.1 d_md_piece_32 (by decide +kernel) ?_
          refine go_R (ca_S (As := [.int (iI (w)), .int (iI (1)), .int (iI (100))]) (rest := []) hC hw (c_md_in l G S w 1 100 (by omega) (by omega) (by omega)) (cv_md_86 hC rfl rfl (Nat.le_of_ble_eq_true rfl) (Nat.le_of_ble_eq_true rfl)) rfl hl.1 rfl (Nat.le_of_ble_eq_true rfl) d_md_piece_34 ⟨Nat.le_of_ble_eq_true rfl, Nat.le_of_ble_eq_true rfl⟩) ?_
          refine ir_bne (tgt := 46) hC d_md_piece_37 (by decide) (fun c_12 => ?_) (fun c_12 => ?_)
          · skip
            have w_13 := wn_t c_12
            refine lv_aload_n hC.1 hC.2.1 d_md_piece_46 rfl (lv_at hl 0 rfl) ?_
            refine gf_md_69 hC hw d_md_piece_47 ?_
            have b_14 := iv_25p hI
            refine lv_bipush (v := iI 12) hC.1 hC.2.1 d_md_piece_50 (by decide +kernel) ?_
            refine ir_ne (tgt := 61) hC.1 hC.2.1 d_md_piece_52 (by decide) ⟨by omega, by omega⟩ (by decide) (fun c_15 => ?_) (fun c_15 => ?_)
            · skip
              refine lv_aload_n hC.1 hC.2.1 d_md_piece_61 rfl (lv_at hl 0 rfl) ?_
              refine lv_iconst (v := iI 0) hC.1 hC.2.1 d_md_piece_62 rfl ?_
              refine pf_md_65 (x := 0) hC hw d_md_piece_63 (fun H locs hw => ?_)
              have hI_16 := Inv.up (q := 25) (i := 0) (x := 0) hI (by omega) (show _ ≤ 2 from by omega)
              refine lv_aload_n hC.1 hC.2.1 d_md_piece_66 rfl (lv_at hl 0 rfl) ?_
              refine gf_md_7 hC hw d_md_piece_67 ?_
              refine lv_aload_n hC.1 hC.2.1 d_md_piece_70 rfl (lv_at hl 0 rfl) ?_
              refine gf_md_69 hC hw d_md_piece_71 ?_
              have b_17 := iv_25p hI_16
              have z_18 : (s_up S 25 0 0) 25 1 = (s_up S 25 0 0) 25 1 := rfl
              conv at z_18 => rhs; (try simp [s_up_at])
              refine lv_iload_n hC.1 hC.2.1 d_md_piece_74 rfl (lv_at hl 1 rfl) ?_
              refine st_26 (x := a) (z := (s_up S 25 0 0) 25 1) hC hw (by omega) (by omega) d_md_piece_75 (fun H locs hw => ?_)
              have hI_19 := Inv.up (q := 26) (i := ((s_up S 25 0 0) 25 1).toNat) (x := a) hI_16 (by omega) (show _ ≤ 7 from by omega)
              refine lv_aload_n hC.1 hC.2.1 d_md_piece_76 rfl (lv_at hl 0 rfl) ?_
              refine gf_md_13 hC hw d_md_piece_77 ?_
              refine lv_aload_n hC.1 hC.2.1 d_md_piece_80 rfl (lv_at hl 0 rfl) ?_
              refine gf_md_69 hC hw d_md_piece_81 ?_
              have b_20 := iv_25p hI_19
              have z_21 : (s_up (s_up S 25 0 0) 26 ((s_up S 25 0 0) 25 1).toNat a) 25 1 = (s_up (s_up S 25 0 0) 26 ((s_up S 25 0 0) 25 1).toNat a) 25 1 := rfl
              conv at z_21 => rhs; (try simp [s_up_at])
              refine lv_iload_n hC.1 hC.2.1 d_md_piece_84 rfl (lv_at hl 2 rfl) ?_
              refine st_27 (x := b) (z := (s_up (s_up S 25 0 0) 26 ((s_up S 25 0 0) 25 1).toNat a) 25 1) hC hw (by omega) (by omega) d_md_piece_85 (fun H locs hw => ?_)
              have hI_22 := Inv.up (q := 27) (i := ((s_up (s_up S 25 0 0) 26 ((s_up S 25 0 0) 25 1).toNat a) 25 1).toNat) (x := b) hI_19 (by omega) (show _ ≤ 7 from by omega)
              refine lv_aload_n hC.1 hC.2.1 d_md_piece_86 rfl (lv_at hl 0 rfl) ?_
              refine gf_md_16 hC hw d_md_piece_87 ?_
              refine lv_aload_n hC.1 hC.2.1 d_md_piece_90 rfl (lv_at hl 0 rfl) ?_
              refine gf_md_69 hC hw d_md_piece_91 ?_
              have b_23 := iv_25p hI_22
              have z_24 : (s_up (s_up (s_up S 25 0 0) 26 ((s_up S 25 0 0) 25 1).toNat a) 27 ((s_up (s_up S 25 0 0) 26 ((s_up S 25 0 0) 25 1).toNat a) 25 1).toNat b) 25 1 = (s_up (s_up (s_up S 25 0 0) 26 ((s_up S 25 0 0) 25 1).toNat a) 27 ((s_up (s_up S 25 0 0) 26 ((s_up S 25 0 0) 25 1).toNat a) 25 1).toNat b) 25 1 := rfl
              conv at z_24 => rhs; (try simp [s_up_at])
              refine lv_iload_n hC.1 hC.2.1 d_md_piece_94 rfl (lv_at hl 3 rfl) ?_
              refine st_28 (x := n) (z := (s_up (s_up (s_up S 25 0 0) 26 ((s_up S 25 0 0) 25 1).toNat a) 27 ((s_up (s_up S 25 0 0) 26 ((s_up S 25 0 0) 25 1).toNat a) 25 1).toNat b) 25 1) hC hw (by omega) (by omega) d_md_piece_95 (fun H locs hw => ?_)
              have hI_25 := Inv.up (q := 28) (i := ((s_up (s_up (s_up S 25 0 0) 26 ((s_up S 25 0 0) 25 1).toNat a) 27 ((s_up (s_up S 25 0 0) 26 ((s_up S 25 0 0) 25 1).toNat a) 25 1).toNat b) 25 1).toNat) (x := n) hI_22 (by omega) (show _ ≤ 100 from by omega)
              refine lv_aload_n hC.1 hC.2.1 d_md_piece_96 rfl (lv_at hl 0 rfl) ?_
              refine gf_md_19 hC hw d_md_piece_97 ?_
              refine lv_aload_n hC.1 hC.2.1 d_md_piece_100 rfl (lv_at hl 0 rfl) ?_
              refine gf_md_69 hC hw d_md_piece_101 ?_
              have b_26 := iv_25p hI_25
              have z_27 : (s_up (s_up (s_up (s_up S 25 0 0) 26 ((s_up S 25 0 0) 25 1).toNat a) 27 ((s_up (s_up S 25 0 0) 26 ((s_up S 25 0 0) 25 1).toNat a) 25 1).toNat b) 28 ((s_up (s_up (s_up S 25 0 0) 26 ((s_up S 25 0 0) 25 1).toNat a) 27 ((s_up (s_up S 25 0 0) 26 ((s_up S 25 0 0) 25 1).toNat a) 25 1).toNat b) 25 1).toNat n) 25 1 = (s_up (s_up (s_up (s_up S 25 0 0) 26 ((s_up S 25 0 0) 25 1).toNat a) 27 ((s_up (s_up S 25 0 0) 26 ((s_up S 25 0 0) 25 1).toNat a) 25 1).toNat b) 28 ((s_up (s_up (s_up S 25 0 0) 26 ((s_up S 25 0 0) 25 1).toNat a) 27 ((s_up (s_up S 25 0 0) 26 ((s_up S 25 0 0) 25 1).toNat a) 25 1).toNat b) 25 1).toNat n) 25 1 := rfl
              conv at z_27 => rhs; (try simp [s_up_at])
              refine lv_iload hC.1 hC.2.1 d_md_piece_104 (lv_at hl 4 rfl) ?_
              refine st_29 (x := w) (z := (s_up (s_up (s_up (s_up S 25 0 0) 26 ((s_up S 25 0 0) 25 1).toNat a) 27 ((s_up (s_up S 25 0 0) 26 ((s_up S 25 0 0) 25 1).toNat a) 25 1).toNat b) 28 ((s_up (s_up (s_up S 25 0 0) 26 ((s_up S 25 0 0) 25 1).toNat a) 27 ((s_up (s_up S 25 0 0) 26 ((s_up S 25 0 0) 25 1).toNat a) 25 1).toNat b) 25 1).toNat n) 25 1) hC hw (by omega) (by omega) d_md_piece_106 (fun H locs hw => ?_)
              have hI_28 := Inv.up (q := 29) (i := ((s_up (s_up (s_up (s_up S 25 0 0) 26 ((s_up S 25 0 0) 25 1).toNat a) 27 ((s_up (s_up S 25 0 0) 26 ((s_up S 25 0 0) 25 1).toNat a) 25 1).toNat b) 28 ((s_up (s_up (s_up S 25 0 0) 26 ((s_up S 25 0 0) 25 1).toNat a) 27 ((s_up (s_up S 25 0 0) 26 ((s_up S 25 0 0) 25 1).toNat a) 25 1).toNat b) 25 1).toNat n) 25 1).toNat) (x := w) hI_25 (by omega) (show _ ≤ 100 from by omega)
              refine lv_aload_n hC.1 hC.2.1 d_md_piece_107 rfl (lv_at hl 0 rfl) ?_
              refine gf_md_22 hC hw d_md_piece_108 ?_
              refine lv_iconst (v := iI 5) hC.1 hC.2.1 d_md_piece_111 rfl ?_
              refine lv_aload_n hC.1 hC.2.1 d_md_piece_112 rfl (lv_at hl 0 rfl) ?_
              refine gf_md_69 hC hw d_md_piece_113 ?_
              have b_29 := iv_25p hI_28
              have z_30 : (s_up (s_up (s_up (s_up (s_up S 25 0 0) 26 ((s_up S 25 0 0) 25 1).toNat a) 27 ((s_up (s_up S 25 0 0) 26 ((s_up S 25 0 0) 25 1).toNat a) 25 1).toNat b) 28 ((s_up (s_up (s_up S 25 0 0) 26 ((s_up S 25 0 0) 25 1).toNat a) 27 ((s_up (s_up S 25 0 0) 26 ((s_up S 25 0 0) 25 1).toNat a) 25 1).toNat b) 25 1).toNat n) 29 ((s_up (s_up (s_up (s_up S 25 0 0) 26 ((s_up S 25 0 0) 25 1).toNat a) 27 ((s_up (s_up S 25 0 0) 26 ((s_up S 25 0 0) 25 1).toNat a) 25 1).toNat b) 28 ((s_up (s_up (s_up S 25 0 0) 26 ((s_up S 25 0 0) 25 1).toNat a) 27 ((s_up (s_up S 25 0 0) 26 ((s_up S 25 0 0) 25 1).toNat a) 25 1).toNat b) 25 1).toNat n) 25 1).toNat w) 25 1 = (s_up (s_up (s_up (s_up (s_up S 25 0 0) 26 ((s_up S 25 0 0) 25 1).toNat a) 27 ((s_up (s_up S 25 0 0) 26 ((s_up S 25 0 0) 25 1).toNat a) 25 1).toNat b) 28 ((s_up (s_up (s_up S 25 0 0) 26 ((s_up S 25 0 0) 25 1).toNat a) 27 ((s_up (s_up S 25 0 0) 26 ((s_up S 25 0 0) 25 1).toNat a) 25 1).toNat b) 25 1).toNat n) 29 ((s_up (s_up (s_up (s_up S 25 0 0) 26 ((s_up S 25 0 0) 25 1).toNat a) 27 ((s_up (s_up S 25 0 0) 26 ((s_up S 25 0 0) 25 1).toNat a) 25 1).toNat b) 28 ((s_up (s_up (s_up S 25 0 0) 26 ((s_up S 25 0 0) 25 1).toNat a) 27 ((s_up (s_up S 25 0 0) 26 ((s_up S 25 0 0) 25 1).toNat a) 25 1).toNat b) 25 1).toNat n) 25 1).toNat w) 25 1 := rfl
              conv at z_30 => rhs; (try simp [s_up_at])
              refine ir_mul hC.1 hC.2.1 d_md_piece_116 ?_
              refine lv_iconst (v := iI 2) hC.1 hC.2.1 d_md_piece_117 rfl ?_
              refine ir_add hC.1 hC.2.1 d_md_piece_118 ?_
              refine lv_bipush (v := iI 100) hC.1 hC.2.1 d_md_piece_119 (by decide +kernel) ?_
              refine st_30 (x := 100) (z := (5 * ((s_up (s_up (s_up (s_up (s_up S 25 0 0) 26 ((s_up S 25 0 0) 25 1).toNat a) 27 ((s_up (s_up S 25 0 0) 26 ((s_up S 25 0 0) 25 1).toNat a) 25 1).toNat b) 28 ((s_up (s_up (s_up S 25 0 0) 26 ((s_up S 25 0 0) 25 1).toNat a) 27 ((s_up (s_up S 25 0 0) 26 ((s_up S 25 0 0) 25 1).toNat a) 25 1).toNat b) 25 1).toNat n) 29 ((s_up (s_up (s_up (s_up S 25 0 0) 26 ((s_up S 25 0 0) 25 1).toNat a) 27 ((s_up (s_up S 25 0 0) 26 ((s_up S 25 0 0) 25 1).toNat a) 25 1).toNat b) 28 ((s_up (s_up (s_up S 25 0 0) 26 ((s_up S 25 0 0) 25 1).toNat a) 27 ((s_up (s_up S 25 0 0) 26 ((s_up S 25 0 0) 25 1).toNat a) 25 1).toNat b) 25 1).toNat n) 25 1).toNat w) 25 1)) + 2) hC hw (by omega) (by omega) d_md_piece_121 (fun H locs hw => ?_)
              have hI_31 := Inv.up (q := 30) (i := ((5 * ((s_up (s_up (s_up (s_up (s_up S 25 0 0) 26 ((s_up S 25 0 0) 25 1).toNat a) 27 ((s_up (s_up S 25 0 0) 26 ((s_up S 25 0 0) 25 1).toNat a) 25 1).toNat b) 28 ((s_up (s_up (s_up S 25 0 0) 26 ((s_up S 25 0 0) 25 1).toNat a) 27 ((s_up (s_up S 25 0 0) 26 ((s_up S 25 0 0) 25 1).toNat a) 25 1).toNat b) 25 1).toNat n) 29 ((s_up (s_up (s_up (s_up S 25 0 0) 26 ((s_up S 25 0 0) 25 1).toNat a) 27 ((s_up (s_up S 25 0 0) 26 ((s_up S 25 0 0) 25 1).toNat a) 25 1).toNat b) 28 ((s_up (s_up (s_up S 25 0 0) 26 ((s_up S 25 0 0) 25 1).toNat a) 27 ((s_up (s_up S 25 0 0) 26 ((s_up S 25 0 0) 25 1).toNat a) 25 1).toNat b) 25 1).toNat n) 25 1).toNat w) 25 1)) + 2).toNat) (x := 100) hI_28 (by omega) (show _ ≤ 100 from by omega)
              refine lv_aload_n hC.1 hC.2.1 d_md_piece_122 rfl (lv_at hl 0 rfl) ?_
              refine lv_dup hC.1 hC.2.1 d_md_piece_123 rfl ?_
              refine gf_md_69 hC hw d_md_piece_124 ?_
              have b_32 := iv_25p hI_31
              have z_33 : (s_up (s_up (s_up (s_up (s_up (s_up S 25 0 0) 26 ((s_up S 25 0 0) 25 1).toNat a) 27 ((s_up (s_up S 25 0 0) 26 ((s_up S 25 0 0) 25 1).toNat a) 25 1).toNat b) 28 ((s_up (s_up (s_up S 25 0 0) 26 ((s_up S 25 0 0) 25 1).toNat a) 27 ((s_up (s_up S 25 0 0) 26 ((s_up S 25 0 0) 25 1).toNat a) 25 1).toNat b) 25 1).toNat n) 29 ((s_up (s_up (s_up (s_up S 25 0 0) 26 ((s_up S 25 0 0) 25 1).toNat a) 27 ((s_up (s_up S 25 0 0) 26 ((s_up S 25 0 0) 25 1).toNat a) 25 1).toNat b) 28 ((s_up (s_up (s_up S 25 0 0) 26 ((s_up S 25 0 0) 25 1).toNat a) 27 ((s_up (s_up S 25 0 0) 26 ((s_up S 25 0 0) 25 1).toNat a) 25 1).toNat b) 25 1).toNat n) 25 1).toNat w) 30 ((5 * ((s_up (s_up (s_up (s_up (s_up S 25 0 0) 26 ((s_up S 25 0 0) 25 1).toNat a) 27 ((s_up (s_up S 25 0 0) 26 ((s_up S 25 0 0) 25 1).toNat a) 25 1).toNat b) 28 ((s_up (s_up (s_up S 25 0 0) 26 ((s_up S 25 0 0) 25 1).toNat a) 27 ((s_up (s_up S 25 0 0) 26 ((s_up S 25 0 0) 25 1).toNat a) 25 1).toNat b) 25 1).toNat n) 29 ((s_up (s_up (s_up (s_up S 25 0 0) 26 ((s_up S 25 0 0) 25 1).toNat a) 27 ((s_up (s_up S 25 0 0) 26 ((s_up S 25 0 0) 25 1).toNat a) 25 1).toNat b) 28 ((s_up (s_up (s_up S 25 0 0) 26 ((s_up S 25 0 0) 25 1).toNat a) 27 ((s_up (s_up S 25 0 0) 26 ((s_up S 25 0 0) 25 1).toNat a) 25 1).toNat b) 25 1).toNat n) 25 1).toNat w) 25 1)) + 2).toNat 100) 25 1 = (s_up (s_up (s_up (s_up (s_up (s_up S 25 0 0) 26 ((s_up S 25 0 0) 25 1).toNat a) 27 ((s_up (s_up S 25 0 0) 26 ((s_up S 25 0 0) 25 1).toNat a) 25 1).toNat b) 28 ((s_up (s_up (s_up S 25 0 0) 26 ((s_up S 25 0 0) 25 1).toNat a) 27 ((s_up (s_up S 25 0 0) 26 ((s_up S 25 0 0) 25 1).toNat a) 25 1).toNat b) 25 1).toNat n) 29 ((s_up (s_up (s_up (s_up S 25 0 0) 26 ((s_up S 25 0 0) 25 1).toNat a) 27 ((s_up (s_up S 25 0 0) 26 ((s_up S 25 0 0) 25 1).toNat a) 25 1).toNat b) 28 ((s_up (s_up (s_up S 25 0 0) 26 ((s_up S 25 0 0) 25 1).toNat a) 27 ((s_up (s_up S 25 0 0) 26 ((s_up S 25 0 0) 25 1).toNat a) 25 1).toNat b) 25 1).toNat n) 25 1).toNat w) 30 ((5 * ((s_up (s_up (s_up (s_up (s_up S 25 0 0) 26 ((s_up S 25 0 0) 25 1).toNat a) 27 ((s_up (s_up S 25 0 0) 26 ((s_up S 25 0 0) 25 1).toNat a) 25 1).toNat b) 28 ((s_up (s_up (s_up S 25 0 0) 26 ((s_up S 25 0 0) 25 1).toNat a) 27 ((s_up (s_up S 25 0 0) 26 ((s_up S 25 0 0) 25 1).toNat a) 25 1).toNat b) 25 1).toNat n) 29 ((s_up (s_up (s_up (s_up S 25 0 0) 26 ((s_up S 25 0 0) 25 1).toNat a) 27 ((s_up (s_up S 25 0 0) 26 ((s_up S 25 0 0) 25 1).toNat a) 25 1).toNat b) 28 ((s_up (s_up (s_up S 25 0 0) 26 ((s_up S 25 0 0) 25 1).toNat a) 27 ((s_up (s_up S 25 0 0) 26 ((s_up S 25 0 0) 25 1).toNat a) 25 1).toNat b) 25 1).toNat n) 25 1).toNat w) 25 1)) + 2).toNat 100) 25 1 := rfl
              conv at z_33 => rhs; (try simp [s_up_at])
              refine lv_iconst (v := iI 1) hC.1 hC.2.1 d_md_piece_127 rfl ?_
              refine ir_add hC.1 hC.2.1 d_md_piece_128 ?_
              refine pf_md_69 (x := ((s_up (s_up (s_up (s_up (s_up (s_up S 25 0 0) 26 ((s_up S 25 0 0) 25 1).toNat a) 27 ((s_up (s_up S 25 0 0) 26 ((s_up S 25 0 0) 25 1).toNat a) 25 1).toNat b) 28 ((s_up (s_up (s_up S 25 0 0) 26 ((s_up S 25 0 0) 25 1).toNat a) 27 ((s_up (s_up S 25 0 0) 26 ((s_up S 25 0 0) 25 1).toNat a) 25 1).toNat b) 25 1).toNat n) 29 ((s_up (s_up (s_up (s_up S 25 0 0) 26 ((s_up S 25 0 0) 25 1).toNat a) 27 ((s_up (s_up S 25 0 0) 26 ((s_up S 25 0 0) 25 1).toNat a) 25 1).toNat b) 28 ((s_up (s_up (s_up S 25 0 0) 26 ((s_up S 25 0 0) 25 1).toNat a) 27 ((s_up (s_up S 25 0 0) 26 ((s_up S 25 0 0) 25 1).toNat a) 25 1).toNat b) 25 1).toNat n) 25 1).toNat w) 30 ((5 * ((s_up (s_up (s_up (s_up (s_up S 25 0 0) 26 ((s_up S 25 0 0) 25 1).toNat a) 27 ((s_up (s_up S 25 0 0) 26 ((s_up S 25 0 0) 25 1).toNat a) 25 1).toNat b) 28 ((s_up (s_up (s_up S 25 0 0) 26 ((s_up S 25 0 0) 25 1).toNat a) 27 ((s_up (s_up S 25 0 0) 26 ((s_up S 25 0 0) 25 1).toNat a) 25 1).toNat b) 25 1).toNat n) 29 ((s_up (s_up (s_up (s_up S 25 0 0) 26 ((s_up S 25 0 0) 25 1).toNat a) 27 ((s_up (s_up S 25 0 0) 26 ((s_up S 25 0 0) 25 1).toNat a) 25 1).toNat b) 28 ((s_up (s_up (s_up S 25 0 0) 26 ((s_up S 25 0 0) 25 1).toNat a) 27 ((s_up (s_up S 25 0 0) 26 ((s_up S 25 0 0) 25 1).toNat a) 25 1).toNat b) 25 1).toNat n) 25 1).toNat w) 25 1)) + 2).toNat 100) 25 1) + 1) hC hw d_md_piece_129 (fun H locs hw => ?_)
              have hI_34 := Inv.up (q := 25) (i := 1) (x := ((s_up (s_up (s_up (s_up (s_up (s_up S 25 0 0) 26 ((s_up S 25 0 0) 25 1).toNat a) 27 ((s_up (s_up S 25 0 0) 26 ((s_up S 25 0 0) 25 1).toNat a) 25 1).toNat b) 28 ((s_up (s_up (s_up S 25 0 0) 26 ((s_up S 25 0 0) 25 1).toNat a) 27 ((s_up (s_up S 25 0 0) 26 ((s_up S 25 0 0) 25 1).toNat a) 25 1).toNat b) 25 1).toNat n) 29 ((s_up (s_up (s_up (s_up S 25 0 0) 26 ((s_up S 25 0 0) 25 1).toNat a) 27 ((s_up (s_up S 25 0 0) 26 ((s_up S 25 0 0) 25 1).toNat a) 25 1).toNat b) 28 ((s_up (s_up (s_up S 25 0 0) 26 ((s_up S 25 0 0) 25 1).toNat a) 27 ((s_up (s_up S 25 0 0) 26 ((s_up S 25 0 0) 25 1).toNat a) 25 1).toNat b) 25 1).toNat n) 25 1).toNat w) 30 ((5 * ((s_up (s_up (s_up (s_up (s_up S 25 0 0) 26 ((s_up S 25 0 0) 25 1).toNat a) 27 ((s_up (s_up S 25 0 0) 26 ((s_up S 25 0 0) 25 1).toNat a) 25 1).toNat b) 28 ((s_up (s_up (s_up S 25 0 0) 26 ((s_up S 25 0 0) 25 1).toNat a) 27 ((s_up (s_up S 25 0 0) 26 ((s_up S 25 0 0) 25 1).toNat a) 25 1).toNat b) 25 1).toNat n) 29 ((s_up (s_up (s_up (s_up S 25 0 0) 26 ((s_up S 25 0 0) 25 1).toNat a) 27 ((s_up (s_up S 25 0 0) 26 ((s_up S 25 0 0) 25 1).toNat a) 25 1).toNat b) 28 ((s_up (s_up (s_up S 25 0 0) 26 ((s_up S 25 0 0) 25 1).toNat a) 27 ((s_up (s_up S 25 0 0) 26 ((s_up S 25 0 0) 25 1).toNat a) 25 1).toNat b) 25 1).toNat n) 25 1).toNat w) 25 1)) + 2).toNat 100) 25 1) + 1) hI_31 (by omega) (show _ ≤ 12 from by omega)
              refine lv_aload_n hC.1 hC.2.1 d_md_piece_132 rfl (lv_at hl 0 rfl) ?_
              refine gf_md_69 hC hw d_md_piece_133 ?_
              have b_35 := iv_25p hI_34
              have z_36 : (s_up (s_up (s_up (s_up (s_up (s_up (s_up S 25 0 0) 26 ((s_up S 25 0 0) 25 1).toNat a) 27 ((s_up (s_up S 25 0 0) 26 ((s_up S 25 0 0) 25 1).toNat a) 25 1).toNat b) 28 ((s_up (s_up (s_up S 25 0 0) 26 ((s_up S 25 0 0) 25 1).toNat a) 27 ((s_up (s_up S 25 0 0) 26 ((s_up S 25 0 0) 25 1).toNat a) 25 1).toNat b) 25 1).toNat n) 29 ((s_up (s_up (s_up (s_up S 25 0 0) 26 ((s_up S 25 0 0) 25 1).toNat a) 27 ((s_up (s_up S 25 0 0) 26 ((s_up S 25 0 0) 25 1).toNat a) 25 1).toNat b) 28 ((s_up (s_up (s_up S 25 0 0) 26 ((s_up S 25 0 0) 25 1).toNat a) 27 ((s_up (s_up S 25 0 0) 26 ((s_up S 25 0 0) 25 1).toNat a) 25 1).toNat b) 25 1).toNat n) 25 1).toNat w) 30 ((5 * ((s_up (s_up (s_up (s_up (s_up S 25 0 0) 26 ((s_up S 25 0 0) 25 1).toNat a) 27 ((s_up (s_up S 25 0 0) 26 ((s_up S 25 0 0) 25 1).toNat a) 25 1).toNat b) 28 ((s_up (s_up (s_up S 25 0 0) 26 ((s_up S 25 0 0) 25 1).toNat a) 27 ((s_up (s_up S 25 0 0) 26 ((s_up S 25 0 0) 25 1).toNat a) 25 1).toNat b) 25 1).toNat n) 29 ((s_up (s_up (s_up (s_up S 25 0 0) 26 ((s_up S 25 0 0) 25 1).toNat a) 27 ((s_up (s_up S 25 0 0) 26 ((s_up S 25 0 0) 25 1).toNat a) 25 1).toNat b) 28 ((s_up (s_up (s_up S 25 0 0) 26 ((s_up S 25 0 0) 25 1).toNat a) 27 ((s_up (s_up S 25 0 0) 26 ((s_up S 25 0 0) 25 1).toNat a) 25 1).toNat b) 25 1).toNat n) 25 1).toNat w) 25 1)) + 2).toNat 100) 25 1 (((s_up (s_up (s_up (s_up (s_up (s_up S 25 0 0) 26 ((s_up S 25 0 0) 25 1).toNat a) 27 ((s_up (s_up S 25 0 0) 26 ((s_up S 25 0 0) 25 1).toNat a) 25 1).toNat b) 28 ((s_up (s_up (s_up S 25 0 0) 26 ((s_up S 25 0 0) 25 1).toNat a) 27 ((s_up (s_up S 25 0 0) 26 ((s_up S 25 0 0) 25 1).toNat a) 25 1).toNat b) 25 1).toNat n) 29 ((s_up (s_up (s_up (s_up S 25 0 0) 26 ((s_up S 25 0 0) 25 1).toNat a) 27 ((s_up (s_up S 25 0 0) 26 ((s_up S 25 0 0) 25 1).toNat a) 25 1).toNat b) 28 ((s_up (s_up (s_up S 25 0 0) 26 ((s_up S 25 0 0) 25 1).toNat a) 27 ((s_up (s_up S 25 0 0) 26 ((s_up S 25 0 0) 25 1).toNat a) 25 1).toNat b) 25 1).toNat n) 25 1).toNat w) 30 ((5 * ((s_up (s_up (s_up (s_up (s_up S 25 0 0) 26 ((s_up S 25 0 0) 25 1).toNat a) 27 ((s_up (s_up S 25 0 0) 26 ((s_up S 25 0 0) 25 1).toNat a) 25 1).toNat b) 28 ((s_up (s_up (s_up S 25 0 0) 26 ((s_up S 25 0 0) 25 1).toNat a) 27 ((s_up (s_up S 25 0 0) 26 ((s_up S 25 0 0) 25 1).toNat a) 25 1).toNat b) 25 1).toNat n) 29 ((s_up (s_up (s_up (s_up S 25 0 0) 26 ((s_up S 25 0 0) 25 1).toNat a) 27 ((s_up (s_up S 25 0 0) 26 ((s_up S 25 0 0) 25 1).toNat a) 25 1).toNat b) 28 ((s_up (s_up (s_up S 25 0 0) 26 ((s_up S 25 0 0) 25 1).toNat a) 27 ((s_up (s_up S 25 0 0) 26 ((s_up S 25 0 0) 25 1).toNat a) 25 1).toNat b) 25 1).toNat n) 25 1).toNat w) 25 1)) + 2).toNat 100) 25 1) + 1)) 25 1 = (s_up (s_up (s_up (s_up (s_up (s_up (s_up S 25 0 0) 26 ((s_up S 25 0 0) 25 1).toNat a) 27 ((s_up (s_up S 25 0 0) 26 ((s_up S 25 0 0) 25 1).toNat a) 25 1).toNat b) 28 ((s_up (s_up (s_up S 25 0 0) 26 ((s_up S 25 0 0) 25 1).toNat a) 27 ((s_up (s_up S 25 0 0) 26 ((s_up S 25 0 0) 25 1).toNat a) 25 1).toNat b) 25 1).toNat n) 29 ((s_up (s_up (s_up (s_up S 25 0 0) 26 ((s_up S 25 0 0) 25 1).toNat a) 27 ((s_up (s_up S 25 0 0) 26 ((s_up S 25 0 0) 25 1).toNat a) 25 1).toNat b) 28 ((s_up (s_up (s_up S 25 0 0) 26 ((s_up S 25 0 0) 25 1).toNat a) 27 ((s_up (s_up S 25 0 0) 26 ((s_up S 25 0 0) 25 1).toNat a) 25 1).toNat b) 25 1).toNat n) 25 1).toNat w) 30 ((5 * ((s_up (s_up (s_up (s_up (s_up S 25 0 0) 26 ((s_up S 25 0 0) 25 1).toNat a) 27 ((s_up (s_up S 25 0 0) 26 ((s_up S 25 0 0) 25 1).toNat a) 25 1).toNat b) 28 ((s_up (s_up (s_up S 25 0 0) 26 ((s_up S 25 0 0) 25 1).toNat a) 27 ((s_up (s_up S 25 0 0) 26 ((s_up S 25 0 0) 25 1).toNat a) 25 1).toNat b) 25 1).toNat n) 29 ((s_up (s_up (s_up (s_up S 25 0 0) 26 ((s_up S 25 0 0) 25 1).toNat a) 27 ((s_up (s_up S 25 0 0) 26 ((s_up S 25 0 0) 25 1).toNat a) 25 1).toNat b) 28 ((s_up (s_up (s_up S 25 0 0) 26 ((s_up S 25 0 0) 25 1).toNat a) 27 ((s_up (s_up S 25 0 0) 26 ((s_up S 25 0 0) 25 1).toNat a) 25 1).toNat b) 25 1).toNat n) 25 1).toNat w) 25 1)) + 2).toNat 100) 25 1 (((s_up (s_up (s_up (s_up (s_up (s_up S 25 0 0) 26 ((s_up S 25 0 0) 25 1).toNat a) 27 ((s_up (s_up S 25 0 0) 26 ((s_up S 25 0 0) 25 1).toNat a) 25 1).toNat b) 28 ((s_up (s_up (s_up S 25 0 0) 26 ((s_up S 25 0 0) 25 1).toNat a) 27 ((s_up (s_up S 25 0 0) 26 ((s_up S 25 0 0) 25 1).toNat a) 25 1).toNat b) 25 1).toNat n) 29 ((s_up (s_up (s_up (s_up S 25 0 0) 26 ((s_up S 25 0 0) 25 1).toNat a) 27 ((s_up (s_up S 25 0 0) 26 ((s_up S 25 0 0) 25 1).toNat a) 25 1).toNat b) 28 ((s_up (s_up (s_up S 25 0 0) 26 ((s_up S 25 0 0) 25 1).toNat a) 27 ((s_up (s_up S 25 0 0) 26 ((s_up S 25 0 0) 25 1).toNat a) 25 1).toNat b) 25 1).toNat n) 25 1).toNat w) 30 ((5 * ((s_up (s_up (s_up (s_up (s_up S 25 0 0) 26 ((s_up S 25 0 0) 25 1).toNat a) 27 ((s_up (s_up S 25 0 0) 26 ((s_up S 25 0 0) 25 1).toNat a) 25 1).toNat b) 28 ((s_up (s_up (s_up S 25 0 0) 26 ((s_up S 25 0 0) 25 1).toNat a) 27 ((s_up (s_up S 25 0 0) 26 ((s_up S 25 0 0) 25 1).toNat a) 25 1).toNat b) 25 1).toNat n) 29 ((s_up (s_up (s_up (s_up S 25 0 0) 26 ((s_up S 25 0 0) 25 1).toNat a) 27 ((s_up (s_up S 25 0 0) 26 ((s_up S 25 0 0) 25 1).toNat a) 25 1).toNat b) 28 ((s_up (s_up (s_up S 25 0 0) 26 ((s_up S 25 0 0) 25 1).toNat a) 27 ((s_up (s_up S 25 0 0) 26 ((s_up S 25 0 0) 25 1).toNat a) 25 1).toNat b) 25 1).toNat n) 25 1).toNat w) 25 1)) + 2).toNat 100) 25 1) + 1)) 25 1 := rfl
              conv at z_36 => rhs; (try simp [s_up_at])
              refine lv_iconst (v := iI 1) hC.1 hC.2.1 d_md_piece_136 rfl ?_
              refine ir_sub hC.1 hC.2.1 d_md_piece_137 ?_
              have hk_37 : kmP S a b n w = 0 := (by first | (simp [kmP, c_1, c_4, c_7, c_9, c_12, c_15]; done) | (simp [kmP, c_1, c_4, c_7, c_9, c_12, c_15]; omega) | (simp [kmP, c_1, c_4, c_7, c_9, c_12, c_15]; done) | (simp [kmP, c_1, c_4, c_7, c_9, c_12, c_15]; omega) | (simp [kmP, c_1, c_4, c_9, c_12]; done) | (simp [kmP, c_1, c_4, c_9, c_12]; omega) | omega)
              exact rt_W hC hr hlk hw (by rw [if_pos hk_37] <;> first | rfl | (simp [s_up_at, c_1, c_4, c_7, c_9, c_12, c_15]; done) | (simp [s_up_at, c_1, c_4, c_7, c_9, c_12, c_15]; omega) | (simp [s_up_at, c_1, c_4, c_7, c_9, c_12, c_15]; done)) (by rw [if_pos hk_37] <;> first | rfl | (simp [mAdd, s_up_at, c_1, c_4, c_7, c_9, c_12, c_15]; done)) d_md_piece_138
            · skip
              refine lv_aload_n hC.1 hC.2.1 d_md_piece_55 rfl (lv_at hl 0 rfl) ?_
              refine lv_iconst (v := iI 2) hC.1 hC.2.1 d_md_piece_56 rfl ?_
              refine go_W (ca_V (As := [.int (iI (2))]) (rest := []) hC hw (c_md_fails l G S 2 (by omega)) (cv_md_90 hC rfl rfl (Nat.le_of_ble_eq_true rfl) (Nat.le_of_ble_eq_true rfl)) (by decide) rfl rfl rfl hl.1 rfl (Nat.le_of_ble_eq_true rfl) d_md_piece_57 ⟨Nat.le_of_ble_eq_true rfl, Nat.le_of_ble_eq_true rfl⟩) hw (fun H locs hw => ?_)
              have hk_38 : kmP S a b n w = 2 := (by first | (simp [kmP, c_1, c_4, c_7, c_9, c_12, c_15]; done) | (simp [kmP, c_1, c_4, c_7, c_9, c_12, c_15]; omega) | (simp [kmP, c_1, c_4, c_7, c_9, c_12, c_15]; done) | (simp [kmP, c_1, c_4, c_7, c_9, c_12, c_15]; omega) | (simp [kmP, c_1, c_4, c_9, c_12]; done) | (simp [kmP, c_1, c_4, c_9, c_12]; omega) | omega)
              exact rt_W hC hr hlk hw (by rw [if_neg (by omega)]) (by rw [if_neg (by omega), hk_38]) d_md_piece_60
          · skip
            refine lv_aload_n hC.1 hC.2.1 d_md_piece_40 rfl (lv_at hl 0 rfl) ?_
            refine lv_iconst (v := iI 1) hC.1 hC.2.1 d_md_piece_41 rfl ?_
            refine go_W (ca_V (As := [.int (iI (1))]) (rest := []) hC hw (c_md_fails l G S 1 (by omega)) (cv_md_90 hC rfl rfl (Nat.le_of_ble_eq_true rfl) (Nat.le_of_ble_eq_true rfl)) (by decide) rfl rfl rfl hl.1 rfl (Nat.le_of_ble_eq_true rfl) d_md_piece_42 ⟨Nat.le_of_ble_eq_true rfl, Nat.le_of_ble_eq_true rfl⟩) hw (fun H locs hw => ?_)
            have hk_39 : kmP S a b n w = 1 := (by first | (simp [kmP, c_1, c_4, c_7, c_9, c_12]; done) | (simp [kmP, c_1, c_4, c_7, c_9, c_12]; omega) | (simp [kmP, c_1, c_4, c_7, c_9, c_12]; done) | (simp [kmP, c_1, c_4, c_7, c_9, c_12]; omega) | (simp [kmP, c_1, c_4, c_9, c_12]; done) | (simp [kmP, c_1, c_4, c_9, c_12]; omega) | omega)
            exact rt_W hC hr hlk hw (by rw [if_neg (by omega)]) (by rw [if_neg (by omega), hk_39]) d_md_piece_45
set_option maxHeartbeats 4000000 in
set_option maxRecDepth 100000 in
theorem c_md_ship (l : Launch) (G : Gt) (S : St) (a : Int) (b : Int) (d : Int) (hI : Inv S) (ha : i32 a) (hb : i32 b) (hd : i32 d) : Met l y_md_ship [.code y_md_ship b_md_ship 4 (some .int)] { frames := 1, cells := 0, slots := 0, locals := 22 } (va_Pc [.ref (G.2.1 25), .int (iI (a)), .int (iI (b)), .int (iI (d))] (fun U => wu G S U)) (qW G (if kmS S a b d = 0 then mSh (s_up S 25 0 0) a b d else s_up S 25 0 (kmS S a b d)) (if kmS S a b d = 0 then S 25 10 else 0)) 0 0 (gA G) := by
  refine mt_of (by decide +kernel) (Nat.le_of_ble_eq_true rfl) ?_
  intro p e s m below meth c ls hadm hC hr hlk hex hw hl
  have hC : CallFix p m c b_md_ship 4 s _ tws "ChannelRulesModel" := hC
  have hl : lv_has ls 4 [(0, .ref (G.2.1 25)), (1, .int (iI (a))), (2, .int (iI (b))), (3, .int (iI (d)))] := hl
  have i1 := iv_25s hI
  refine lv_iload_n hC.1 hC.2.1 d_md_ship_0 rfl (lv_at hl 1 rfl) ?_
  refine lv_iconst (v := iI 1) hC.1 hC.2.1 d_md_ship_1 rfl ?_
  refine lv_bipush (v := iI 100) hC.1 hC.2.1 d_md_ship_2 (by decide +kernel) ?_
  refine go_R (ca_S (As := [.int (iI (a)), .int (iI (1)), .int (iI (100))]) (rest := []) hC hw (c_md_in l G S a 1 100 (by omega) (by omega) (by omega)) (cv_md_86 hC rfl rfl (Nat.le_of_ble_eq_true rfl) (Nat.le_of_ble_eq_true rfl)) rfl hl.1 rfl (Nat.le_of_ble_eq_true rfl) d_md_ship_4 ⟨Nat.le_of_ble_eq_true rfl, Nat.le_of_ble_eq_true rfl⟩) ?_
  refine ir_beq (tgt := 29) hC d_md_ship_7 (by decide) (fun c_1 => ?_) (fun c_1 => ?_)
  · skip
    refine lv_aload_n hC.1 hC.2.1 d_md_ship_29 rfl (lv_at hl 0 rfl) ?_
    refine lv_iconst (v := iI 1) hC.1 hC.2.1 d_md_ship_30 rfl ?_
    refine go_W (ca_V (As := [.int (iI (1))]) (rest := []) hC hw (c_md_fails l G S 1 (by omega)) (cv_md_90 hC rfl rfl (Nat.le_of_ble_eq_true rfl) (Nat.le_of_ble_eq_true rfl)) (by decide) rfl rfl rfl hl.1 rfl (Nat.le_of_ble_eq_true rfl) d_md_ship_31 ⟨Nat.le_of_ble_eq_true rfl, Nat.le_of_ble_eq_true rfl⟩) hw (fun H locs hw => ?_)
    have hk_2 : kmS S a b d = 1 := (by first | (simp [kmS, c_1]; done) | (simp [kmS, c_1]; omega) | (simp [kmS, c_1]; done) | (simp [kmS, c_1]; omega) | (simp [kmS, c_1]; done) | (simp [kmS, c_1]; omega) | omega)
    exact rt_W hC hr hlk hw (by rw [if_neg (by omega)]) (by rw [if_neg (by omega), hk_2]) d_md_ship_34
  · skip
    have w_3 := wn_t c_1
    refine lv_iload_n hC.1 hC.2.1 d_md_ship_10 rfl (lv_at hl 2 rfl) ?_
    refine lv_iconst (v := iI 1) hC.1 hC.2.1 d_md_ship_11 rfl ?_
    refine lv_bipush (v := iI 20) hC.1 hC.2.1 d_md_ship_12 (by decide +kernel) ?_
    refine go_R (ca_S (As := [.int (iI (b)), .int (iI (1)), .int (iI (20))]) (rest := []) hC hw (c_md_in l G S b 1 20 (by omega) (by omega) (by omega)) (cv_md_86 hC rfl rfl (Nat.le_of_ble_eq_true rfl) (Nat.le_of_ble_eq_true rfl)) rfl hl.1 rfl (Nat.le_of_ble_eq_true rfl) d_md_ship_14 ⟨Nat.le_of_ble_eq_true rfl, Nat.le_of_ble_eq_true rfl⟩) ?_
    refine ir_beq (tgt := 29) hC d_md_ship_17 (by decide) (fun c_4 => ?_) (fun c_4 => ?_)
    · skip
      refine lv_aload_n hC.1 hC.2.1 d_md_ship_29 rfl (lv_at hl 0 rfl) ?_
      refine lv_iconst (v := iI 1) hC.1 hC.2.1 d_md_ship_30 rfl ?_
      refine go_W (ca_V (As := [.int (iI (1))]) (rest := []) hC hw (c_md_fails l G S 1 (by omega)) (cv_md_90 hC rfl rfl (Nat.le_of_ble_eq_true rfl) (Nat.le_of_ble_eq_true rfl)) (by decide) rfl rfl rfl hl.1 rfl (Nat.le_of_ble_eq_true rfl) d_md_ship_31 ⟨Nat.le_of_ble_eq_true rfl, Nat.le_of_ble_eq_true rfl⟩) hw (fun H locs hw => ?_)
      have hk_5 : kmS S a b d = 1 := (by first | (simp [kmS, c_1, c_4]; done) | (simp [kmS, c_1, c_4]; omega) | (simp [kmS, c_1, c_4]; done) | (simp [kmS, c_1, c_4]; omega) | (simp [kmS, c_1, c_4]; done) | (simp [kmS, c_1, c_4]; omega) | omega)
      exact rt_W hC hr hlk hw (by rw [if_neg (by omega)]) (by rw [if_neg (by omega), hk_5]) d_md_ship_34
    · skip
      have w_6 := wn_t c_4
      refine lv_iload_n hC.1 hC.2.1 d_md_ship_20 rfl (lv_at hl 3 rfl) ?_
      refine lv_iconst (v := iI 0) hC.1 hC.2.1 d_md_ship_21 rfl ?_
      refine lv_iconst (v := iI 2) hC.1 hC.2.1 d_md_ship_22 rfl ?_
      refine go_R (ca_S (As := [.int (iI (d)), .int (iI (0)), .int (iI (2))]) (rest := []) hC hw (c_md_in l G S d 0 2 (by omega) (by omega) (by omega)) (cv_md_86 hC rfl rfl (Nat.le_of_ble_eq_true rfl) (Nat.le_of_ble_eq_true rfl)) rfl hl.1 rfl (Nat.le_of_ble_eq_true rfl) d_md_ship_23 ⟨Nat.le_of_ble_eq_true rfl, Nat.le_of_ble_eq_true rfl⟩) ?_
      refine ir_bne (tgt := 35) hC d_md_ship_26 (by decide) (fun c_7 => ?_) (fun c_7 => ?_)
      · skip
        have w_8 := wn_t c_7
        refine lv_aload_n hC.1 hC.2.1 d_md_ship_35 rfl (lv_at hl 0 rfl) ?_
        refine gf_md_72 hC hw d_md_ship_36 ?_
        have b_9 := iv_25s hI
        refine lv_bipush (v := iI 12) hC.1 hC.2.1 d_md_ship_39 (by decide +kernel) ?_
        refine ir_ne (tgt := 50) hC.1 hC.2.1 d_md_ship_41 (by decide) ⟨by omega, by omega⟩ (by decide) (fun c_10 => ?_) (fun c_10 => ?_)
        · skip
          refine lv_aload_n hC.1 hC.2.1 d_md_ship_50 rfl (lv_at hl 0 rfl) ?_
          refine lv_iconst (v := iI 0) hC.1 hC.2.1 d_md_ship_51 rfl ?_
          refine pf_md_65 (x := 0) hC hw d_md_ship_52 (fun H locs hw => ?_)
          have hI_11 := Inv.up (q := 25) (i := 0) (x := 0) hI (by omega) (show _ ≤ 2 from by omega)
          refine lv_aload_n hC.1 hC.2.1 d_md_ship_55 rfl (lv_at hl 0 rfl) ?_
          refine gf_md_34 hC hw d_md_ship_56 ?_
          refine lv_aload_n hC.1 hC.2.1 d_md_ship_59 rfl (lv_at hl 0 rfl) ?_
          refine gf_md_72 hC hw d_md_ship_60 ?_
          have b_12 := iv_25s hI_11
          have z_13 : (s_up S 25 0 0) 25 10 = (s_up S 25 0 0) 25 10 := rfl
          conv at z_13 => rhs; (try simp [s_up_at])
          refine lv_iload_n hC.1 hC.2.1 d_md_ship_63 rfl (lv_at hl 1 rfl) ?_
          refine st_34 (x := a) (z := (s_up S 25 0 0) 25 10) hC hw (by omega) (by omega) d_md_ship_64 (fun H locs hw => ?_)
          have hI_14 := Inv.up (q := 34) (i := ((s_up S 25 0 0) 25 10).toNat) (x := a) hI_11 (by omega) (show _ ≤ 100 from by omega)
          refine lv_aload_n hC.1 hC.2.1 d_md_ship_65 rfl (lv_at hl 0 rfl) ?_
          refine gf_md_37 hC hw d_md_ship_66 ?_
          refine lv_aload_n hC.1 hC.2.1 d_md_ship_69 rfl (lv_at hl 0 rfl) ?_
          refine gf_md_72 hC hw d_md_ship_70 ?_
          have b_15 := iv_25s hI_14
          have z_16 : (s_up (s_up S 25 0 0) 34 ((s_up S 25 0 0) 25 10).toNat a) 25 10 = (s_up (s_up S 25 0 0) 34 ((s_up S 25 0 0) 25 10).toNat a) 25 10 := rfl
          conv at z_16 => rhs; (try simp [s_up_at])
          refine lv_iload_n hC.1 hC.2.1 d_md_ship_73 rfl (lv_at hl 2 rfl) ?_
          refine st_35 (x := b) (z := (s_up (s_up S 25 0 0) 34 ((s_up S 25 0 0) 25 10).toNat a) 25 10) hC hw (by omega) (by omega) d_md_ship_74 (fun H locs hw => ?_)
          have hI_17 := Inv.up (q := 35) (i := ((s_up (s_up S 25 0 0) 34 ((s_up S 25 0 0) 25 10).toNat a) 25 10).toNat) (x := b) hI_14 (by omega) (show _ ≤ 20 from by omega)
          refine lv_aload_n hC.1 hC.2.1 d_md_ship_75 rfl (lv_at hl 0 rfl) ?_
          refine gf_md_40 hC hw d_md_ship_76 ?_
          refine lv_aload_n hC.1 hC.2.1 d_md_ship_79 rfl (lv_at hl 0 rfl) ?_
          refine gf_md_72 hC hw d_md_ship_80 ?_
          have b_18 := iv_25s hI_17
          have z_19 : (s_up (s_up (s_up S 25 0 0) 34 ((s_up S 25 0 0) 25 10).toNat a) 35 ((s_up (s_up S 25 0 0) 34 ((s_up S 25 0 0) 25 10).toNat a) 25 10).toNat b) 25 10 = (s_up (s_up (s_up S 25 0 0) 34 ((s_up S 25 0 0) 25 10).toNat a) 35 ((s_up (s_up S 25 0 0) 34 ((s_up S 25 0 0) 25 10).toNat a) 25 10).toNat b) 25 10 := rfl
          conv at z_19 => rhs; (try simp [s_up_at])
          refine lv_iload_n hC.1 hC.2.1 d_md_ship_83 rfl (lv_at hl 3 rfl) ?_
          refine st_36 (x := d) (z := (s_up (s_up (s_up S 25 0 0) 34 ((s_up S 25 0 0) 25 10).toNat a) 35 ((s_up (s_up S 25 0 0) 34 ((s_up S 25 0 0) 25 10).toNat a) 25 10).toNat b) 25 10) hC hw (by omega) (by omega) d_md_ship_84 (fun H locs hw => ?_)
          have hI_20 := Inv.up (q := 36) (i := ((s_up (s_up (s_up S 25 0 0) 34 ((s_up S 25 0 0) 25 10).toNat a) 35 ((s_up (s_up S 25 0 0) 34 ((s_up S 25 0 0) 25 10).toNat a) 25 10).toNat b) 25 10).toNat) (x := d) hI_17 (by omega) (show _ ≤ 2 from by omega)
          refine lv_aload_n hC.1 hC.2.1 d_md_ship_85 rfl (lv_at hl 0 rfl) ?_
          refine lv_dup hC.1 hC.2.1 d_md_ship_86 rfl ?_
          refine gf_md_72 hC hw d_md_ship_87 ?_
          have b_21 := iv_25s hI_20
          have z_22 : (s_up (s_up (s_up (s_up S 25 0 0) 34 ((s_up S 25 0 0) 25 10).toNat a) 35 ((s_up (s_up S 25 0 0) 34 ((s_up S 25 0 0) 25 10).toNat a) 25 10).toNat b) 36 ((s_up (s_up (s_up S 25 0 0) 34 ((s_up S 25 0 0) 25 10).toNat a) 35 ((s_up (s_up S 25 0 0) 34 ((s_up S 25 0 0) 25 10).toNat a) 25 10).toNat b) 25 10).toNat d) 25 10 = (s_up (s_up (s_up (s_up S 25 0 0) 34 ((s_up S 25 0 0) 25 10).toNat a) 35 ((s_up (s_up S 25 0 0) 34 ((s_up S 25 0 0) 25 10).toNat a) 25 10).toNat b) 36 ((s_up (s_up (s_up S 25 0 0) 34 ((s_up S 25 0 0) 25 10).toNat a) 35 ((s_up (s_up S 25 0 0) 34 ((s_up S 25 0 0) 25 10).toNat a) 25 10).toNat b) 25 10).toNat d) 25 10 := rfl
          conv at z_22 => rhs; (try simp [s_up_at])
          refine lv_iconst (v := iI 1) hC.1 hC.2.1 d_md_ship_90 rfl ?_
          refine ir_add hC.1 hC.2.1 d_md_ship_91 ?_
          refine pf_md_72 (x := ((s_up (s_up (s_up (s_up S 25 0 0) 34 ((s_up S 25 0 0) 25 10).toNat a) 35 ((s_up (s_up S 25 0 0) 34 ((s_up S 25 0 0) 25 10).toNat a) 25 10).toNat b) 36 ((s_up (s_up (s_up S 25 0 0) 34 ((s_up S 25 0 0) 25 10).toNat a) 35 ((s_up (s_up S 25 0 0) 34 ((s_up S 25 0 0) 25 10).toNat a) 25 10).toNat b) 25 10).toNat d) 25 10) + 1) hC hw d_md_ship_92 (fun H locs hw => ?_)
          have hI_23 := Inv.up (q := 25) (i := 10) (x := ((s_up (s_up (s_up (s_up S 25 0 0) 34 ((s_up S 25 0 0) 25 10).toNat a) 35 ((s_up (s_up S 25 0 0) 34 ((s_up S 25 0 0) 25 10).toNat a) 25 10).toNat b) 36 ((s_up (s_up (s_up S 25 0 0) 34 ((s_up S 25 0 0) 25 10).toNat a) 35 ((s_up (s_up S 25 0 0) 34 ((s_up S 25 0 0) 25 10).toNat a) 25 10).toNat b) 25 10).toNat d) 25 10) + 1) hI_20 (by omega) (show _ ≤ 12 from by omega)
          refine lv_aload_n hC.1 hC.2.1 d_md_ship_95 rfl (lv_at hl 0 rfl) ?_
          refine gf_md_72 hC hw d_md_ship_96 ?_
          have b_24 := iv_25s hI_23
          have z_25 : (s_up (s_up (s_up (s_up (s_up S 25 0 0) 34 ((s_up S 25 0 0) 25 10).toNat a) 35 ((s_up (s_up S 25 0 0) 34 ((s_up S 25 0 0) 25 10).toNat a) 25 10).toNat b) 36 ((s_up (s_up (s_up S 25 0 0) 34 ((s_up S 25 0 0) 25 10).toNat a) 35 ((s_up (s_up S 25 0 0) 34 ((s_up S 25 0 0) 25 10).toNat a) 25 10).toNat b) 25 10).toNat d) 25 10 (((s_up (s_up (s_up (s_up S 25 0 0) 34 ((s_up S 25 0 0) 25 10).toNat a) 35 ((s_up (s_up S 25 0 0) 34 ((s_up S 25 0 0) 25 10).toNat a) 25 10).toNat b) 36 ((s_up (s_up (s_up S 25 0 0) 34 ((s_up S 25 0 0) 25 10).toNat a) 35 ((s_up (s_up S 25 0 0) 34 ((s_up S 25 0 0) 25 10).toNat a) 25 10).toNat b) 25 10).toNat d) 25 10) + 1)) 25 10 = (s_up (s_up (s_up (s_up (s_up S 25 0 0) 34 ((s_up S 25 0 0) 25 10).toNat a) 35 ((s_up (s_up S 25 0 0) 34 ((s_up S 25 0 0) 25 10).toNat a) 25 10).toNat b) 36 ((s_up (s_up (s_up S 25 0 0) 34 ((s_up S 25 0 0) 25 10).toNat a) 35 ((s_up (s_up S 25 0 0) 34 ((s_up S 25 0 0) 25 10).toNat a) 25 10).toNat b) 25 10).toNat d) 25 10 (((s_up (s_up (s_up (s_up S 25 0 0) 34 ((s_up S 25 0 0) 25 10).toNat a) 35 ((s_up (s_up S 25 0 0) 34 ((s_up S 25 0 0) 25 10).toNat a) 25 10).toNat b) 36 ((s_up (s_up (s_up S 25 0 0) 34 ((s_up S 25 0 0) 25 10).toNat a) 35 ((s_up (s_up S 25 0 0) 34 ((s_up S 25 0 0) 25 10).toNat a) 25 10).toNat b) 25 10).toNat d) 25 10) + 1)) 25 10 := rfl
          conv at z_25 => rhs; (try simp [s_up_at])
          refine lv_iconst (v := iI 1) hC.1 hC.2.1 d_md_ship_99 rfl ?_
          refine ir_sub hC.1 hC.2.1 d_md_ship_100 ?_
          have hk_26 : kmS S a b d = 0 := (by first | (simp [kmS, c_1, c_4, c_7, c_10]; done) | (simp [kmS, c_1, c_4, c_7, c_10]; omega) | (simp [kmS, c_1, c_4, c_7, c_10]; done) | (simp [kmS, c_1, c_4, c_7, c_10]; omega) | (simp [kmS, c_1, c_4, c_7]; done) | (simp [kmS, c_1, c_4, c_7]; omega) | omega)
          exact rt_W hC hr hlk hw (by rw [if_pos hk_26] <;> first | rfl | (simp [s_up_at, c_1, c_4, c_7, c_10]; done) | (simp [s_up_at, c_1, c_4, c_7, c_10]; omega) | (simp [s_up_at, c_1, c_4, c_7, c_10]; done)) (by rw [if_pos hk_26] <;> first | rfl | (simp [mSh, s_up_at, c_1, c_4, c_7, c_10]; done)) d_md_ship_101
        · skip
          refine lv_aload_n hC.1 hC.2.1 d_md_ship_44 rfl (lv_at hl 0 rfl) ?_
          refine lv_iconst (v := iI 2) hC.1 hC.2.1 d_md_ship_45 rfl ?_
          refine go_W (ca_V (As := [.int (iI (2))]) (rest := []) hC hw (c_md_fails l G S 2 (by omega)) (cv_md_90 hC rfl rfl (Nat.le_of_ble_eq_true rfl) (Nat.le_of_ble_eq_true rfl)) (by decide) rfl rfl rfl hl.1 rfl (Nat.le_of_ble_eq_true rfl) d_md_ship_46 ⟨Nat.le_of_ble_eq_true rfl, Nat.le_of_ble_eq_true rfl⟩) hw (fun H locs hw => ?_)
          have hk_27 : kmS S a b d = 2 := (by first | (simp [kmS, c_1, c_4, c_7, c_10]; done) | (simp [kmS, c_1, c_4, c_7, c_10]; omega) | (simp [kmS, c_1, c_4, c_7, c_10]; done) | (simp [kmS, c_1, c_4, c_7, c_10]; omega) | (simp [kmS, c_1, c_4, c_7]; done) | (simp [kmS, c_1, c_4, c_7]; omega) | omega)
          exact rt_W hC hr hlk hw (by rw [if_neg (by omega)]) (by rw [if_neg (by omega), hk_27]) d_md_ship_49
      · skip
        refine lv_aload_n hC.1 hC.2.1 d_md_ship_29 rfl (lv_at hl 0 rfl) ?_
        refine lv_iconst (v := iI 1) hC.1 hC.2.1 d_md_ship_30 rfl ?_
        refine go_W (ca_V (As := [.int (iI (1))]) (rest := []) hC hw (c_md_fails l G S 1 (by omega)) (cv_md_90 hC rfl rfl (Nat.le_of_ble_eq_true rfl) (Nat.le_of_ble_eq_true rfl)) (by decide) rfl rfl rfl hl.1 rfl (Nat.le_of_ble_eq_true rfl) d_md_ship_31 ⟨Nat.le_of_ble_eq_true rfl, Nat.le_of_ble_eq_true rfl⟩) hw (fun H locs hw => ?_)
        have hk_28 : kmS S a b d = 1 := (by first | (simp [kmS, c_1, c_4, c_7]; done) | (simp [kmS, c_1, c_4, c_7]; omega) | (simp [kmS, c_1, c_4, c_7]; done) | (simp [kmS, c_1, c_4, c_7]; omega) | (simp [kmS, c_1, c_4, c_7]; done) | (simp [kmS, c_1, c_4, c_7]; omega) | omega)
        exact rt_W hC hr hlk hw (by rw [if_neg (by omega)]) (by rw [if_neg (by omega), hk_28]) d_md_ship_34
set_option maxHeartbeats 4000000 in
set_option maxRecDepth 100000 in
theorem c_md_rule (l : Launch) (G : Gt) (S : St) (q : Int) (k : Int) (v : Int) (hI : Inv S) (hq : i32 q) (hk : i32 k) (hv : i32 v) : Met l y_md_rule [.code y_md_rule b_md_rule 5 (some .boolean)] { frames := 1, cells := 0, slots := 0, locals := 22 } (va_Pc [.ref (G.2.1 25), .int (iI (q)), .int (iI (k)), .int (iI (v))] (fun U => wu G S U)) (qW G (if mRu (s_up S 25 0 0) q k v = true then s_up (s_up S 25 0 0) 30 (5 * q + k).toNat v else s_up S 25 0 0) (bI (mRu (s_up S 25 0 0) q k v))) 0 0 (gA G) := by
  refine mt_of (by decide +kernel) (Nat.le_of_ble_eq_true rfl) ?_
  intro p e s m below meth c ls hadm hC hr hlk hex hw hl
  have hC : CallFix p m c b_md_rule 5 s _ tws "ChannelRulesModel" := hC
  have hl : lv_has ls 5 [(0, .ref (G.2.1 25)), (1, .int (iI (q))), (2, .int (iI (k))), (3, .int (iI (v)))] := hl
  have i1 := iv_25p hI
  refine lv_aload_n hC.1 hC.2.1 d_md_rule_0 rfl (lv_at hl 0 rfl) ?_
  refine lv_iconst (v := iI 0) hC.1 hC.2.1 d_md_rule_1 rfl ?_
  refine pf_md_65 (x := 0) hC hw d_md_rule_2 (fun H locs hw => ?_)
  have hI_1 := Inv.up (q := 25) (i := 0) (x := 0) hI (by omega) (show _ ≤ 2 from by omega)
  have zk : (s_up S 25 0 0) 25 16 = S 25 16 := by simp [s_up_at]
  have zn : (s_up S 25 0 0) 25 15 = S 25 15 := by simp [s_up_at]
  have zp : (s_up S 25 0 0) 25 1 = S 25 1 := by simp [s_up_at]
  refine lv_iload_n hC.1 hC.2.1 d_md_rule_5 rfl (lv_at hl 2 rfl) ?_
  refine lv_iconst (v := iI 2) hC.1 hC.2.1 d_md_rule_6 rfl ?_
  refine ir_ge (tgt := 14) hC.1 hC.2.1 d_md_rule_7 (by decide) ⟨by omega, by omega⟩ (by decide) (fun c_2 => ?_) (fun c_2 => ?_)
  · skip
    refine lv_iload_n hC.1 hC.2.1 d_md_rule_14 rfl (lv_at hl 2 rfl) ?_
    refine lv_iconst (v := iI 2) hC.1 hC.2.1 d_md_rule_15 rfl ?_
    refine ir_ne (tgt := 24) hC.1 hC.2.1 d_md_rule_16 (by decide) ⟨by omega, by omega⟩ (by decide) (fun c_3 => ?_) (fun c_3 => ?_)
    · skip
      refine lv_iconst (v := iI 1) hC.1 hC.2.1 d_md_rule_24 rfl ?_
      refine lv_istore (lv' := [(4, .int (iI (1))), (0, .ref (G.2.1 25)), (1, .int (iI (q))), (2, .int (iI (k))), (3, .int (iI (v)))]) hC.1 hC.2.1 d_md_rule_25 hl (by decide) rfl (fun ls hl => ?_)
      refine lv_aload_n hC.1 hC.2.1 d_md_rule_27 rfl (lv_at hl 1 rfl) ?_
      refine lv_iload_n hC.1 hC.2.1 d_md_rule_28 rfl (lv_at hl 2 rfl) ?_
      refine go_R (ca_V (As := [.int (iI (q))]) (rest := []) hC hw (c_md_isPiece l G (s_up S 25 0 0) q hI_1 (by omega)) (cv_md_94 hC rfl rfl (Nat.le_of_ble_eq_true rfl) (Nat.le_of_ble_eq_true rfl)) (by decide) rfl rfl rfl hl.1 rfl (Nat.le_of_ble_eq_true rfl) d_md_rule_29 ⟨Nat.le_of_ble_eq_true rfl, Nat.le_of_ble_eq_true rfl⟩) ?_
      refine ir_beq (tgt := 54) hC d_md_rule_32 (by decide) (fun c_4 => ?_) (fun c_4 => ?_)
      · skip
        refine lv_iconst (v := iI 0) hC.1 hC.2.1 d_md_rule_54 rfl ?_
        exact rt_WZ hC hr hlk hw (by decide) (by unfold mRu; first | (rw [if_pos (show k < 2 by omega)]; simp [bI, c_4]; done) | (rw [if_neg (show ¬ k < 2 by omega), if_pos (show k = 2 by omega)]; simp [bI, c_4]; done) | (rw [if_neg (show ¬ k < 2 by omega), if_neg (show ¬ k = 2 by omega)]; simp [bI, c_4]; done)) (by unfold mRu; first | (rw [if_pos (show k < 2 by omega)]; simp [c_4]; done) | (rw [if_neg (show ¬ k < 2 by omega), if_pos (show k = 2 by omega)]; simp [c_4]; done) | (rw [if_neg (show ¬ k < 2 by omega), if_neg (show ¬ k = 2 by omega)]; simp [c_4]; done)) d_md_rule_55
      · skip
        have w_5 := wn_t c_4
        refine lv_iload_n hC.1 hC.2.1 d_md_rule_35 rfl (lv_at hl 3 rfl) ?_
        refine lv_iconst (v := iI 0) hC.1 hC.2.1 d_md_rule_36 rfl ?_
        refine lv_iconst (v := iI 4) hC.1 hC.2.1 d_md_rule_37 rfl ?_
        refine go_R (ca_S (As := [.int (iI (k)), .int (iI (0)), .int (iI (4))]) (rest := []) hC hw (c_md_in l G (s_up S 25 0 0) k 0 4 (by omega) (by omega) (by omega)) (cv_md_86 hC rfl rfl (Nat.le_of_ble_eq_true rfl) (Nat.le_of_ble_eq_true rfl)) rfl hl.1 rfl (Nat.le_of_ble_eq_true rfl) d_md_rule_38 ⟨Nat.le_of_ble_eq_true rfl, Nat.le_of_ble_eq_true rfl⟩) ?_
        refine ir_beq (tgt := 54) hC d_md_rule_41 (by decide) (fun c_6 => ?_) (fun c_6 => ?_)
        · skip
          refine lv_iconst (v := iI 0) hC.1 hC.2.1 d_md_rule_54 rfl ?_
          exact rt_WZ hC hr hlk hw (by decide) (by unfold mRu; first | (rw [if_pos (show k < 2 by omega)]; simp [bI, c_4, c_6]; done) | (rw [if_neg (show ¬ k < 2 by omega), if_pos (show k = 2 by omega)]; simp [bI, c_4, c_6]; done) | (rw [if_neg (show ¬ k < 2 by omega), if_neg (show ¬ k = 2 by omega)]; simp [bI, c_4, c_6]; done)) (by unfold mRu; first | (rw [if_pos (show k < 2 by omega)]; simp [c_4, c_6]; done) | (rw [if_neg (show ¬ k < 2 by omega), if_pos (show k = 2 by omega)]; simp [c_4, c_6]; done) | (rw [if_neg (show ¬ k < 2 by omega), if_neg (show ¬ k = 2 by omega)]; simp [c_4, c_6]; done)) d_md_rule_55
        · skip
          have w_7 := wn_t c_6
          refine lv_iload_n hC.1 hC.2.1 d_md_rule_44 rfl (lv_at hl 4 rfl) ?_
          refine lv_iconst (v := iI 0) hC.1 hC.2.1 d_md_rule_45 rfl ?_
          refine lv_iload hC.1 hC.2.1 d_md_rule_46 (lv_at hl 0 rfl) ?_
          refine go_R (ca_S (As := [.int (iI (v)), .int (iI (0)), .int (iI (1))]) (rest := []) hC hw (c_md_in l G (s_up S 25 0 0) v 0 1 (by omega) (by omega) (by omega)) (cv_md_86 hC rfl rfl (Nat.le_of_ble_eq_true rfl) (Nat.le_of_ble_eq_true rfl)) rfl hl.1 rfl (Nat.le_of_ble_eq_true rfl) d_md_rule_48 ⟨Nat.le_of_ble_eq_true rfl, Nat.le_of_ble_eq_true rfl⟩) ?_
          refine ir_bne (tgt := 56) hC d_md_rule_51 (by decide) (fun c_8 => ?_) (fun c_8 => ?_)
          · skip
            have w_9 := wn_t c_8
            refine lv_aload_n hC.1 hC.2.1 d_md_rule_56 rfl (lv_at hl 1 rfl) ?_
            refine gf_md_22 hC hw d_md_rule_57 ?_
            refine lv_iconst (v := iI 5) hC.1 hC.2.1 d_md_rule_60 rfl ?_
            refine lv_iload_n hC.1 hC.2.1 d_md_rule_61 rfl (lv_at hl 2 rfl) ?_
            refine ir_mul hC.1 hC.2.1 d_md_rule_62 ?_
            refine lv_iload_n hC.1 hC.2.1 d_md_rule_63 rfl (lv_at hl 3 rfl) ?_
            refine ir_add hC.1 hC.2.1 d_md_rule_64 ?_
            refine lv_iload_n hC.1 hC.2.1 d_md_rule_65 rfl (lv_at hl 4 rfl) ?_
            refine st_30 (x := v) (z := (5 * q) + k) hC hw (by omega) (by omega) d_md_rule_66 (fun H locs hw => ?_)
            have hI_10 := Inv.up (q := 30) (i := ((5 * q) + k).toNat) (x := v) hI_1 (by omega) (show _ ≤ 100 from by omega)
            refine lv_iconst (v := iI 1) hC.1 hC.2.1 d_md_rule_67 rfl ?_
            exact rt_WZ hC hr hlk hw (by decide) (by unfold mRu; first | (rw [if_pos (show k < 2 by omega)]; simp [bI, c_4, c_6, c_8]; done) | (rw [if_neg (show ¬ k < 2 by omega), if_pos (show k = 2 by omega)]; simp [bI, c_4, c_6, c_8]; done) | (rw [if_neg (show ¬ k < 2 by omega), if_neg (show ¬ k = 2 by omega)]; simp [bI, c_4, c_6, c_8]; done)) (by unfold mRu; first | (rw [if_pos (show k < 2 by omega)]; simp [c_4, c_6, c_8]; done) | (rw [if_neg (show ¬ k < 2 by omega), if_pos (show k = 2 by omega)]; simp [c_4, c_6, c_8]; done) | (rw [if_neg (show ¬ k < 2 by omega), if_neg (show ¬ k = 2 by omega)]; simp [c_4, c_6, c_8]; done)) d_md_rule_68
          · skip
            refine lv_iconst (v := iI 0) hC.1 hC.2.1 d_md_rule_54 rfl ?_
            exact rt_WZ hC hr hlk hw (by decide) (by unfold mRu; first | (rw [if_pos (show k < 2 by omega)]; simp [bI, c_4, c_6, c_8]; done) | (rw [if_neg (show ¬ k < 2 by omega), if_pos (show k = 2 by omega)]; simp [bI, c_4, c_6, c_8]; done) | (rw [if_neg (show ¬ k < 2 by omega), if_neg (show ¬ k = 2 by omega)]; simp [bI, c_4, c_6, c_8]; done)) (by unfold mRu; first | (rw [if_pos (show k < 2 by omega)]; simp [c_4, c_6, c_8]; done) | (rw [if_neg (show ¬ k < 2 by omega), if_pos (show k = 2 by omega)]; simp [c_4, c_6, c_8]; done) | (rw [if_neg (show ¬ k < 2 by omega), if_neg (show ¬ k = 2 by omega)]; simp [c_4, c_6, c_8]; done)) d_md_rule_55
    · skip
      refine lv_bipush (v := iI 100) hC.1 hC.2.1 d_md_rule_19 (by decide +kernel) ?_
      refine lv_goto (tgt := 25) hC.1 hC.2.1 d_md_rule_21 (by decide) ?_
      refine lv_istore (lv' := [(4, .int (iI (100))), (0, .ref (G.2.1 25)), (1, .int (iI (q))), (2, .int (iI (k))), (3, .int (iI (v)))]) hC.1 hC.2.1 d_md_rule_25 hl (by decide) rfl (fun ls hl => ?_)
      refine lv_aload_n hC.1 hC.2.1 d_md_rule_27 rfl (lv_at hl 1 rfl) ?_
      refine lv_iload_n hC.1 hC.2.1 d_md_rule_28 rfl (lv_at hl 2 rfl) ?_
      refine go_R (ca_V (As := [.int (iI (q))]) (rest := []) hC hw (c_md_isPiece l G (s_up S 25 0 0) q hI_1 (by omega)) (cv_md_94 hC rfl rfl (Nat.le_of_ble_eq_true rfl) (Nat.le_of_ble_eq_true rfl)) (by decide) rfl rfl rfl hl.1 rfl (Nat.le_of_ble_eq_true rfl) d_md_rule_29 ⟨Nat.le_of_ble_eq_true rfl, Nat.le_of_ble_eq_true rfl⟩) ?_
      refine ir_beq (tgt := 54) hC d_md_rule_32 (by decide) (fun c_11 => ?_) (fun c_11 => ?_)
      · skip
        refine lv_iconst (v := iI 0) hC.1 hC.2.1 d_md_rule_54 rfl ?_
        exact rt_WZ hC hr hlk hw (by decide) (by unfold mRu; first | (rw [if_pos (show k < 2 by omega)]; simp [bI, c_11]; done) | (rw [if_neg (show ¬ k < 2 by omega), if_pos (show k = 2 by omega)]; simp [bI, c_11]; done) | (rw [if_neg (show ¬ k < 2 by omega), if_neg (show ¬ k = 2 by omega)]; simp [bI, c_11]; done)) (by unfold mRu; first | (rw [if_pos (show k < 2 by omega)]; simp [c_11]; done) | (rw [if_neg (show ¬ k < 2 by omega), if_pos (show k = 2 by omega)]; simp [c_11]; done) | (rw [if_neg (show ¬ k < 2 by omega), if_neg (show ¬ k = 2 by omega)]; simp [c_11]; done)) d_md_rule_55
      · skip
        have w_12 := wn_t c_11
        refine lv_iload_n hC.1 hC.2.1 d_md_rule_35 rfl (lv_at hl 3 rfl) ?_
        refine lv_iconst (v := iI 0) hC.1 hC.2.1 d_md_rule_36 rfl ?_
        refine lv_iconst (v := iI 4) hC.1 hC.2.1 d_md_rule_37 rfl ?_
        refine go_R (ca_S (As := [.int (iI (k)), .int (iI (0)), .int (iI (4))]) (rest := []) hC hw (c_md_in l G (s_up S 25 0 0) k 0 4 (by omega) (by omega) (by omega)) (cv_md_86 hC rfl rfl (Nat.le_of_ble_eq_true rfl) (Nat.le_of_ble_eq_true rfl)) rfl hl.1 rfl (Nat.le_of_ble_eq_true rfl) d_md_rule_38 ⟨Nat.le_of_ble_eq_true rfl, Nat.le_of_ble_eq_true rfl⟩) ?_
        refine ir_beq (tgt := 54) hC d_md_rule_41 (by decide) (fun c_13 => ?_) (fun c_13 => ?_)
        · skip
          refine lv_iconst (v := iI 0) hC.1 hC.2.1 d_md_rule_54 rfl ?_
          exact rt_WZ hC hr hlk hw (by decide) (by unfold mRu; first | (rw [if_pos (show k < 2 by omega)]; simp [bI, c_11, c_13]; done) | (rw [if_neg (show ¬ k < 2 by omega), if_pos (show k = 2 by omega)]; simp [bI, c_11, c_13]; done) | (rw [if_neg (show ¬ k < 2 by omega), if_neg (show ¬ k = 2 by omega)]; simp [bI, c_11, c_13]; done)) (by unfold mRu; first | (rw [if_pos (show k < 2 by omega)]; simp [c_11, c_13]; done) | (rw [if_neg (show ¬ k < 2 by omega), if_pos (show k = 2 by omega)]; simp [c_11, c_13]; done) | (rw [if_neg (show ¬ k < 2 by omega), if_neg (show ¬ k = 2 by omega)]; simp [c_11, c_13]; done)) d_md_rule_55
        · skip
          have w_14 := wn_t c_13
          refine lv_iload_n hC.1 hC.2.1 d_md_rule_44 rfl (lv_at hl 4 rfl) ?_
          refine lv_iconst (v := iI 0) hC.1 hC.2.1 d_md_rule_45 rfl ?_
          refine lv_iload hC.1 hC.2.1 d_md_rule_46 (lv_at hl 0 rfl) ?_
          refine go_R (ca_S (As := [.int (iI (v)), .int (iI (0)), .int (iI (100))]) (rest := []) hC hw (c_md_in l G (s_up S 25 0 0) v 0 100 (by omega) (by omega) (by omega)) (cv_md_86 hC rfl rfl (Nat.le_of_ble_eq_true rfl) (Nat.le_of_ble_eq_true rfl)) rfl hl.1 rfl (Nat.le_of_ble_eq_true rfl) d_md_rule_48 ⟨Nat.le_of_ble_eq_true rfl, Nat.le_of_ble_eq_true rfl⟩) ?_
          refine ir_bne (tgt := 56) hC d_md_rule_51 (by decide) (fun c_15 => ?_) (fun c_15 => ?_)
          · skip
            have w_16 := wn_t c_15
            refine lv_aload_n hC.1 hC.2.1 d_md_rule_56 rfl (lv_at hl 1 rfl) ?_
            refine gf_md_22 hC hw d_md_rule_57 ?_
            refine lv_iconst (v := iI 5) hC.1 hC.2.1 d_md_rule_60 rfl ?_
            refine lv_iload_n hC.1 hC.2.1 d_md_rule_61 rfl (lv_at hl 2 rfl) ?_
            refine ir_mul hC.1 hC.2.1 d_md_rule_62 ?_
            refine lv_iload_n hC.1 hC.2.1 d_md_rule_63 rfl (lv_at hl 3 rfl) ?_
            refine ir_add hC.1 hC.2.1 d_md_rule_64 ?_
            refine lv_iload_n hC.1 hC.2.1 d_md_rule_65 rfl (lv_at hl 4 rfl) ?_
            refine st_30 (x := v) (z := (5 * q) + k) hC hw (by omega) (by omega) d_md_rule_66 (fun H locs hw => ?_)
            have hI_17 := Inv.up (q := 30) (i := ((5 * q) + k).toNat) (x := v) hI_1 (by omega) (show _ ≤ 100 from by omega)
            refine lv_iconst (v := iI 1) hC.1 hC.2.1 d_md_rule_67 rfl ?_
            exact rt_WZ hC hr hlk hw (by decide) (by unfold mRu; first | (rw [if_pos (show k < 2 by omega)]; simp [bI, c_11, c_13, c_15]; done) | (rw [if_neg (show ¬ k < 2 by omega), if_pos (show k = 2 by omega)]; simp [bI, c_11, c_13, c_15]; done) | (rw [if_neg (show ¬ k < 2 by omega), if_neg (show ¬ k = 2 by omega)]; simp [bI, c_11, c_13, c_15]; done)) (by unfold mRu; first | (rw [if_pos (show k < 2 by omega)]; simp [c_11, c_13, c_15]; done) | (rw [if_neg (show ¬ k < 2 by omega), if_pos (show k = 2 by omega)]; simp [c_11, c_13, c_15]; done) | (rw [if_neg (show ¬ k < 2 by omega), if_neg (show ¬ k = 2 by omega)]; simp [c_11, c_13, c_15]; done)) d_md_rule_68
          · skip
            refine lv_iconst (v := iI 0) hC.1 hC.2.1 d_md_rule_54 rfl ?_
            exact rt_WZ hC hr hlk hw (by decide) (by unfold mRu; first | (rw [if_pos (show k < 2 by omega)]; simp [bI, c_11, c_13, c_15]; done) | (rw [if_neg (show ¬ k < 2 by omega), if_pos (show k = 2 by omega)]; simp [bI, c_11, c_13, c_15]; done) | (rw [if_neg (show ¬ k < 2 by omega), if_neg (show ¬ k = 2 by omega)]; simp [bI, c_11, c_13, c_15]; done)) (by unfold mRu; first | (rw [if_pos (show k < 2 by omega)]; simp [c_11, c_13, c_15]; done) | (rw [if_neg (show ¬ k < 2 by omega), if_pos (show k = 2 by omega)]; simp [c_11, c_13, c_15]; done) | (rw [if_neg (show ¬ k < 2 by omega), if_neg (show ¬ k = 2 by omega)]; simp [c_11, c_13, c_15]; done)) d_md_rule_55
  · skip
    refine lv_iconst (v := iI 2) hC.1 hC.2.1 d_md_rule_10 rfl ?_
    refine lv_goto (tgt := 25) hC.1 hC.2.1 d_md_rule_11 (by decide) ?_
    refine lv_istore (lv' := [(4, .int (iI (2))), (0, .ref (G.2.1 25)), (1, .int (iI (q))), (2, .int (iI (k))), (3, .int (iI (v)))]) hC.1 hC.2.1 d_md_rule_25 hl (by decide) rfl (fun ls hl => ?_)
    refine lv_aload_n hC.1 hC.2.1 d_md_rule_27 rfl (lv_at hl 1 rfl) ?_
    refine lv_iload_n hC.1 hC.2.1 d_md_rule_28 rfl (lv_at hl 2 rfl) ?_
    refine go_R (ca_V (As := [.int (iI (q))]) (rest := []) hC hw (c_md_isPiece l G (s_up S 25 0 0) q hI_1 (by omega)) (cv_md_94 hC rfl rfl (Nat.le_of_ble_eq_true rfl) (Nat.le_of_ble_eq_true rfl)) (by decide) rfl rfl rfl hl.1 rfl (Nat.le_of_ble_eq_true rfl) d_md_rule_29 ⟨Nat.le_of_ble_eq_true rfl, Nat.le_of_ble_eq_true rfl⟩) ?_
    refine ir_beq (tgt := 54) hC d_md_rule_32 (by decide) (fun c_18 => ?_) (fun c_18 => ?_)
    · skip
      refine lv_iconst (v := iI 0) hC.1 hC.2.1 d_md_rule_54 rfl ?_
      exact rt_WZ hC hr hlk hw (by decide) (by unfold mRu; first | (rw [if_pos (show k < 2 by omega)]; simp [bI, c_18]; done) | (rw [if_neg (show ¬ k < 2 by omega), if_pos (show k = 2 by omega)]; simp [bI, c_18]; done) | (rw [if_neg (show ¬ k < 2 by omega), if_neg (show ¬ k = 2 by omega)]; simp [bI, c_18]; done)) (by unfold mRu; first | (rw [if_pos (show k < 2 by omega)]; simp [c_18]; done) | (rw [if_neg (show ¬ k < 2 by omega), if_pos (show k = 2 by omega)]; simp [c_18]; done) | (rw [if_neg (show ¬ k < 2 by omega), if_neg (show ¬ k = 2 by omega)]; simp [c_18]; done)) d_md_rule_55
    · skip
      have w_19 := wn_t c_18
      refine lv_iload_n hC.1 hC.2.1 d_md_rule_35 rfl (lv_at hl 3 rfl) ?_
      refine lv_iconst (v := iI 0) hC.1 hC.2.1 d_md_rule_36 rfl ?_
      refine lv_iconst (v := iI 4) hC.1 hC.2.1 d_md_rule_37 rfl ?_
      refine go_R (ca_S (As := [.int (iI (k)), .int (iI (0)), .int (iI (4))]) (rest := []) hC hw (c_md_in l G (s_up S 25 0 0) k 0 4 (by omega) (by omega) (by omega)) (cv_md_86 hC rfl rfl (Nat.le_of_ble_eq_true rfl) (Nat.le_of_ble_eq_true rfl)) rfl hl.1 rfl (Nat.le_of_ble_eq_true rfl) d_md_rule_38 ⟨Nat.le_of_ble_eq_true rfl, Nat.le_of_ble_eq_true rfl⟩) ?_
      refine ir_beq (tgt := 54) hC d_md_rule_41 (by decide) (fun c_20 => ?_) (fun c_20 => ?_)
      · skip
        refine lv_iconst (v := iI 0) hC.1 hC.2.1 d_md_rule_54 rfl ?_
        exact rt_WZ hC hr hlk hw (by decide) (by unfold mRu; first | (rw [if_pos (show k < 2 by omega)]; simp [bI, c_18, c_20]; done) | (rw [if_neg (show ¬ k < 2 by omega), if_pos (show k = 2 by omega)]; simp [bI, c_18, c_20]; done) | (rw [if_neg (show ¬ k < 2 by omega), if_neg (show ¬ k = 2 by omega)]; simp [bI, c_18, c_20]; done)) (by unfold mRu; first | (rw [if_pos (show k < 2 by omega)]; simp [c_18, c_20]; done) | (rw [if_neg (show ¬ k < 2 by omega), if_pos (show k = 2 by omega)]; simp [c_18, c_20]; done) | (rw [if_neg (show ¬ k < 2 by omega), if_neg (show ¬ k = 2 by omega)]; simp [c_18, c_20]; done)) d_md_rule_55
      · skip
        have w_21 := wn_t c_20
        refine lv_iload_n hC.1 hC.2.1 d_md_rule_44 rfl (lv_at hl 4 rfl) ?_
        refine lv_iconst (v := iI 0) hC.1 hC.2.1 d_md_rule_45 rfl ?_
        refine lv_iload hC.1 hC.2.1 d_md_rule_46 (lv_at hl 0 rfl) ?_
        refine go_R (ca_S (As := [.int (iI (v)), .int (iI (0)), .int (iI (2))]) (rest := []) hC hw (c_md_in l G (s_up S 25 0 0) v 0 2 (by omega) (by omega) (by omega)) (cv_md_86 hC rfl rfl (Nat.le_of_ble_eq_true rfl) (Nat.le_of_ble_eq_true rfl)) rfl hl.1 rfl (Nat.le_of_ble_eq_true rfl) d_md_rule_48 ⟨Nat.le_of_ble_eq_true rfl, Nat.le_of_ble_eq_true rfl⟩) ?_
        refine ir_bne (tgt := 56) hC d_md_rule_51 (by decide) (fun c_22 => ?_) (fun c_22 => ?_)
        · skip
          have w_23 := wn_t c_22
          refine lv_aload_n hC.1 hC.2.1 d_md_rule_56 rfl (lv_at hl 1 rfl) ?_
          refine gf_md_22 hC hw d_md_rule_57 ?_
          refine lv_iconst (v := iI 5) hC.1 hC.2.1 d_md_rule_60 rfl ?_
          refine lv_iload_n hC.1 hC.2.1 d_md_rule_61 rfl (lv_at hl 2 rfl) ?_
          refine ir_mul hC.1 hC.2.1 d_md_rule_62 ?_
          refine lv_iload_n hC.1 hC.2.1 d_md_rule_63 rfl (lv_at hl 3 rfl) ?_
          refine ir_add hC.1 hC.2.1 d_md_rule_64 ?_
          refine lv_iload_n hC.1 hC.2.1 d_md_rule_65 rfl (lv_at hl 4 rfl) ?_
          refine st_30 (x := v) (z := (5 * q) + k) hC hw (by omega) (by omega) d_md_rule_66 (fun H locs hw => ?_)
          have hI_24 := Inv.up (q := 30) (i := ((5 * q) + k).toNat) (x := v) hI_1 (by omega) (show _ ≤ 100 from by omega)
          refine lv_iconst (v := iI 1) hC.1 hC.2.1 d_md_rule_67 rfl ?_
          exact rt_WZ hC hr hlk hw (by decide) (by unfold mRu; first | (rw [if_pos (show k < 2 by omega)]; simp [bI, c_18, c_20, c_22]; done) | (rw [if_neg (show ¬ k < 2 by omega), if_pos (show k = 2 by omega)]; simp [bI, c_18, c_20, c_22]; done) | (rw [if_neg (show ¬ k < 2 by omega), if_neg (show ¬ k = 2 by omega)]; simp [bI, c_18, c_20, c_22]; done)) (by unfold mRu; first | (rw [if_pos (show k < 2 by omega)]; simp [c_18, c_20, c_22]; done) | (rw [if_neg (show ¬ k < 2 by omega), if_pos (show k = 2 by omega)]; simp [c_18, c_20, c_22]; done) | (rw [if_neg (show ¬ k < 2 by omega), if_neg (show ¬ k = 2 by omega)]; simp [c_18, c_20, c_22]; done)) d_md_rule_68
        · skip
          refine lv_iconst (v := iI 0) hC.1 hC.2.1 d_md_rule_54 rfl ?_
          exact rt_WZ hC hr hlk hw (by decide) (by unfold mRu; first | (rw [if_pos (show k < 2 by omega)]; simp [bI, c_18, c_20, c_22]; done) | (rw [if_neg (show ¬ k < 2 by omega), if_pos (show k = 2 by omega)]; simp [bI, c_18, c_20, c_22]; done) | (rw [if_neg (show ¬ k < 2 by omega), if_neg (show ¬ k = 2 by omega)]; simp [bI, c_18, c_20, c_22]; done)) (by unfold mRu; first | (rw [if_pos (show k < 2 by omega)]; simp [c_18, c_20, c_22]; done) | (rw [if_neg (show ¬ k < 2 by omega), if_pos (show k = 2 by omega)]; simp [c_18, c_20, c_22]; done) | (rw [if_neg (show ¬ k < 2 by omega), if_neg (show ¬ k = 2 by omega)]; simp [c_18, c_20, c_22]; done)) d_md_rule_55
set_option maxHeartbeats 4000000 in
set_option maxRecDepth 100000 in
theorem c_md_wind (l : Launch) (G : Gt) (S : St) (x : Int) (hI : Inv S) (hx : x = 0 ∨ x = 1) : Met l y_md_wind [.code y_md_wind b_md_wind 3 (some .boolean)] { frames := 0, cells := 0, slots := 0, locals := 0 } (va_Pc [.ref (G.2.1 25), .int (iI (x))] (fun U => wu G S U)) (qW G (s_up (s_up S 25 0 0) 25 14 x) (if (s_up S 25 0 0) 25 14 = x then 0 else 1)) 0 0 (gA G) := by
  refine mt_of (by decide +kernel) (Nat.le_of_ble_eq_true rfl) ?_
  intro p e s m below meth c ls hadm hC hr hlk hex hw hl
  have hC : CallFix p m c b_md_wind 3 s _ tws "ChannelRulesModel" := hC
  have hl : lv_has ls 3 [(0, .ref (G.2.1 25)), (1, .int (iI (x)))] := hl
  refine lv_aload_n hC.1 hC.2.1 d_md_wind_0 rfl (lv_at hl 0 rfl) ?_
  refine lv_iconst (v := iI 0) hC.1 hC.2.1 d_md_wind_1 rfl ?_
  refine pf_md_65 (x := 0) hC hw d_md_wind_2 (fun H locs hw => ?_)
  have hI_1 := Inv.up (q := 25) (i := 0) (x := 0) hI (by omega) (show _ ≤ 2 from by omega)
  refine lv_aload_n hC.1 hC.2.1 d_md_wind_5 rfl (lv_at hl 0 rfl) ?_
  refine gf_md_97 hC hw d_md_wind_6 ?_
  have b_2 := iv_25w hI_1
  refine lv_iload_n hC.1 hC.2.1 d_md_wind_9 rfl (lv_at hl 1 rfl) ?_
  refine ir_eq (tgt := 17) hC.1 hC.2.1 d_md_wind_10 (by decide) ⟨by omega, by omega⟩ ⟨by omega, by omega⟩ (fun c_3 => ?_) (fun c_3 => ?_)
  · skip
    refine lv_iconst (v := iI 0) hC.1 hC.2.1 d_md_wind_17 rfl ?_
    refine lv_istore_n (lv' := [(2, .int (iI (0))), (0, .ref (G.2.1 25)), (1, .int (iI (x)))]) hC.1 hC.2.1 d_md_wind_18 rfl hl (by decide) rfl (fun ls hl => ?_)
    refine lv_aload_n hC.1 hC.2.1 d_md_wind_19 rfl (lv_at hl 1 rfl) ?_
    refine lv_iload_n hC.1 hC.2.1 d_md_wind_20 rfl (lv_at hl 2 rfl) ?_
    refine pf_md_97 (x := x) hC hw (by omega) d_md_wind_21 (fun H locs hw => ?_)
    have hI_4 := Inv.up (q := 25) (i := 14) (x := x) hI_1 (by omega) (show _ ≤ 1 from by omega)
    refine lv_iload_n hC.1 hC.2.1 d_md_wind_24 rfl (lv_at hl 0 rfl) ?_
    exact rt_WZ hC hr hlk hw (by decide) (by simp [c_3]) rfl d_md_wind_25
  · skip
    refine lv_iconst (v := iI 1) hC.1 hC.2.1 d_md_wind_13 rfl ?_
    refine lv_goto (tgt := 18) hC.1 hC.2.1 d_md_wind_14 (by decide) ?_
    refine lv_istore_n (lv' := [(2, .int (iI (1))), (0, .ref (G.2.1 25)), (1, .int (iI (x)))]) hC.1 hC.2.1 d_md_wind_18 rfl hl (by decide) rfl (fun ls hl => ?_)
    refine lv_aload_n hC.1 hC.2.1 d_md_wind_19 rfl (lv_at hl 1 rfl) ?_
    refine lv_iload_n hC.1 hC.2.1 d_md_wind_20 rfl (lv_at hl 2 rfl) ?_
    refine pf_md_97 (x := x) hC hw (by omega) d_md_wind_21 (fun H locs hw => ?_)
    have hI_5 := Inv.up (q := 25) (i := 14) (x := x) hI_1 (by omega) (show _ ≤ 1 from by omega)
    refine lv_iload_n hC.1 hC.2.1 d_md_wind_24 rfl (lv_at hl 0 rfl) ?_
    exact rt_WZ hC hr hlk hw (by decide) (by simp [c_3]) rfl d_md_wind_25
set_option maxHeartbeats 4000000 in
set_option maxRecDepth 100000 in
theorem c_md_back (l : Launch) (G : Gt) (S : St) (k : Int) (hI : Inv S) (hk : i32 k) : Met l y_md_back [.code y_md_back b_md_back 2 (some .boolean)] { frames := 1, cells := 0, slots := 0, locals := 21 } (va_Pc [.ref (G.2.1 25), .int (iI (k))] (fun U => wu G S U)) (qW G (if mBk (s_up S 25 0 0) k = true then s_up (s_up S 25 0 0) 39 k.toNat 0 else s_up S 25 0 0) (bI (mBk (s_up S 25 0 0) k))) 0 0 (gA G) := by
  refine mt_of (by decide +kernel) (Nat.le_of_ble_eq_true rfl) ?_
  intro p e s m below meth c ls hadm hC hr hlk hex hw hl
  have hC : CallFix p m c b_md_back 2 s _ tws "ChannelRulesModel" := hC
  have hl : lv_has ls 2 [(0, .ref (G.2.1 25)), (1, .int (iI (k)))] := hl
  have i3 := iv_25k hI
  refine lv_aload_n hC.1 hC.2.1 d_md_back_0 rfl (lv_at hl 0 rfl) ?_
  refine lv_iconst (v := iI 0) hC.1 hC.2.1 d_md_back_1 rfl ?_
  refine pf_md_65 (x := 0) hC hw d_md_back_2 (fun H locs hw => ?_)
  have hI_1 := Inv.up (q := 25) (i := 0) (x := 0) hI (by omega) (show _ ≤ 2 from by omega)
  have zk : (s_up S 25 0 0) 25 16 = S 25 16 := by simp [s_up_at]
  have zn : (s_up S 25 0 0) 25 15 = S 25 15 := by simp [s_up_at]
  have zp : (s_up S 25 0 0) 25 1 = S 25 1 := by simp [s_up_at]
  refine lv_aload_n hC.1 hC.2.1 d_md_back_5 rfl (lv_at hl 0 rfl) ?_
  refine lv_iload_n hC.1 hC.2.1 d_md_back_6 rfl (lv_at hl 1 rfl) ?_
  refine go_R (ca_V (As := [.int (iI (k))]) (rest := []) hC hw (c_md_isSlot l G (s_up S 25 0 0) k hI_1 (by omega)) (cv_md_150 hC rfl rfl (Nat.le_of_ble_eq_true rfl) (Nat.le_of_ble_eq_true rfl)) (by decide) rfl rfl rfl hl.1 rfl (Nat.le_of_ble_eq_true rfl) d_md_back_7 ⟨Nat.le_of_ble_eq_true rfl, Nat.le_of_ble_eq_true rfl⟩) ?_
  refine ir_beq (tgt := 35) hC d_md_back_10 (by decide) (fun c_2 => ?_) (fun c_2 => ?_)
  · skip
    refine lv_iconst (v := iI 0) hC.1 hC.2.1 d_md_back_35 rfl ?_
    exact rt_WZ hC hr hlk hw (by decide) (by first | (simp [bI, mBk, c_2]; done) | (simp [bI, mBk, c_2]; omega) | (have q : mBk (s_up S 25 0 0) k = false := (by unfold mBk; simp [c_2]; try omega); rw [q]; rfl)) (by first | (simp [mBk, c_2]; done) | (have q : mBk (s_up S 25 0 0) k = false := (by unfold mBk; simp [c_2]; try omega); rw [q]; rfl)) d_md_back_36
  · skip
    have w_3 := wn_t c_2
    refine lv_aload_n hC.1 hC.2.1 d_md_back_13 rfl (lv_at hl 0 rfl) ?_
    refine gf_md_49 hC hw d_md_back_14 ?_
    refine lv_iload_n hC.1 hC.2.1 d_md_back_17 rfl (lv_at hl 1 rfl) ?_
    refine ld_39 hC hw (by omega) (by omega) d_md_back_18 ?_
    have b_4 := iv_39 hI_1 k.toNat
    have z_5 : (s_up S 25 0 0) 39 k.toNat = (s_up S 25 0 0) 39 k.toNat := rfl
    conv at z_5 => rhs; (try simp [s_up_at])
    refine ir_if_eq (tgt := 35) hC.1 hC.2.1 d_md_back_19 (by decide) ⟨by omega, by omega⟩ (fun c_6 => ?_) (fun c_6 => ?_)
    · skip
      refine lv_iconst (v := iI 0) hC.1 hC.2.1 d_md_back_35 rfl ?_
      exact rt_WZ hC hr hlk hw (by decide) (by first | (simp [bI, mBk, c_2, c_6]; done) | (simp [bI, mBk, c_2, c_6]; omega) | (have q : mBk (s_up S 25 0 0) k = false := (by unfold mBk; simp [c_2, c_6]; try omega); rw [q]; rfl)) (by first | (simp [mBk, c_2, c_6]; done) | (have q : mBk (s_up S 25 0 0) k = false := (by unfold mBk; simp [c_2, c_6]; try omega); rw [q]; rfl)) d_md_back_36
    · skip
      refine lv_aload_n hC.1 hC.2.1 d_md_back_22 rfl (lv_at hl 0 rfl) ?_
      refine gf_md_46 hC hw d_md_back_23 ?_
      refine lv_iload_n hC.1 hC.2.1 d_md_back_26 rfl (lv_at hl 1 rfl) ?_
      refine ld_38 hC hw (by omega) (by omega) d_md_back_27 ?_
      have b_7 := iv_38 hI_1 k.toNat
      have z_8 : (s_up S 25 0 0) 38 k.toNat = (s_up S 25 0 0) 38 k.toNat := rfl
      conv at z_8 => rhs; (try simp [s_up_at])
      refine lv_aload_n hC.1 hC.2.1 d_md_back_28 rfl (lv_at hl 0 rfl) ?_
      refine gf_md_78 hC hw d_md_back_29 ?_
      have b_9 := iv_25 hI_1 15
      have z_10 : (s_up S 25 0 0) 25 15 = (s_up S 25 0 0) 25 15 := rfl
      conv at z_10 => rhs; (try simp [s_up_at])
      refine ir_gt (tgt := 37) hC.1 hC.2.1 d_md_back_32 (by decide) ⟨by omega, by omega⟩ ⟨by omega, by omega⟩ (fun c_11 => ?_) (fun c_11 => ?_)
      · skip
        refine lv_aload_n hC.1 hC.2.1 d_md_back_37 rfl (lv_at hl 0 rfl) ?_
        refine gf_md_49 hC hw d_md_back_38 ?_
        refine lv_iload_n hC.1 hC.2.1 d_md_back_41 rfl (lv_at hl 1 rfl) ?_
        refine lv_iconst (v := iI 0) hC.1 hC.2.1 d_md_back_42 rfl ?_
        refine st_39 (x := 0) (z := k) hC hw (by omega) (by omega) (by omega) d_md_back_43 (fun H locs hw => ?_)
        have hI_12 := Inv.up (q := 39) (i := k.toNat) (x := 0) hI_1 (by omega) (show _ ≤ 1 from by omega)
        refine lv_iconst (v := iI 1) hC.1 hC.2.1 d_md_back_44 rfl ?_
        exact rt_WZ hC hr hlk hw (by decide) (by first | (simp [bI, mBk, c_2, c_6, c_11]; done) | (simp [bI, mBk, c_2, c_6, c_11]; omega) | (have q : mBk (s_up S 25 0 0) k = true := (by unfold mBk; simp [c_2, c_6, c_11]; try omega); rw [q]; rfl)) (by first | (simp [mBk, c_2, c_6, c_11]; done) | (have q : mBk (s_up S 25 0 0) k = true := (by unfold mBk; simp [c_2, c_6, c_11]; try omega); rw [q]; rfl)) d_md_back_45
      · skip
        refine lv_iconst (v := iI 0) hC.1 hC.2.1 d_md_back_35 rfl ?_
        exact rt_WZ hC hr hlk hw (by decide) (by first | (simp [bI, mBk, c_2, c_6, c_11]; done) | (simp [bI, mBk, c_2, c_6, c_11]; omega) | (have q : mBk (s_up S 25 0 0) k = false := (by unfold mBk; simp [c_2, c_6, c_11]; try omega); rw [q]; rfl)) (by first | (simp [mBk, c_2, c_6, c_11]; done) | (have q : mBk (s_up S 25 0 0) k = false := (by unfold mBk; simp [c_2, c_6, c_11]; try omega); rw [q]; rfl)) d_md_back_36
set_option maxHeartbeats 4000000 in
set_option maxRecDepth 100000 in
theorem c_md_tick (l : Launch) (G : Gt) (S : St) (t : Int) (hI : Inv S) (ht : i32 t) : Met l y_md_tick [.code y_md_tick b_md_tick 2 (some .boolean)] { frames := 1, cells := 0, slots := 0, locals := 21 } (va_Pc [.ref (G.2.1 25), .int (iI (t))] (fun U => wu G S U)) (qW G (if wn t ((s_up S 25 0 0) 25 15) 100000 = true then s_up (s_up S 25 0 0) 25 15 t else s_up S 25 0 0) (bI (wn t ((s_up S 25 0 0) 25 15) 100000))) 0 0 (gA G) := by
  refine mt_of (by decide +kernel) (Nat.le_of_ble_eq_true rfl) ?_
  intro p e s m below meth c ls hadm hC hr hlk hex hw hl
  have hC : CallFix p m c b_md_tick 2 s _ tws "ChannelRulesModel" := hC
  have hl : lv_has ls 2 [(0, .ref (G.2.1 25)), (1, .int (iI (t)))] := hl
  refine lv_aload_n hC.1 hC.2.1 d_md_tick_0 rfl (lv_at hl 0 rfl) ?_
  refine lv_iconst (v := iI 0) hC.1 hC.2.1 d_md_tick_1 rfl ?_
  refine pf_md_65 (x := 0) hC hw d_md_tick_2 (fun H locs hw => ?_)
  have hI_1 := Inv.up (q := 25) (i := 0) (x := 0) hI (by omega) (show _ ≤ 2 from by omega)
  refine lv_aload_n hC.1 hC.2.1 d_md_tick_5 rfl (lv_at hl 0 rfl) ?_
  refine lv_iload_n hC.1 hC.2.1 d_md_tick_6 rfl (lv_at hl 1 rfl) ?_
  refine go_R (ca_V (As := [.int (iI (t))]) (rest := []) hC hw (c_md_isTime l G (s_up S 25 0 0) t hI_1 (by omega)) (cv_md_140 hC rfl rfl (Nat.le_of_ble_eq_true rfl) (Nat.le_of_ble_eq_true rfl)) (by decide) rfl rfl rfl hl.1 rfl (Nat.le_of_ble_eq_true rfl) d_md_tick_7 ⟨Nat.le_of_ble_eq_true rfl, Nat.le_of_ble_eq_true rfl⟩) ?_
  refine ir_bne (tgt := 15) hC d_md_tick_10 (by decide) (fun c_2 => ?_) (fun c_2 => ?_)
  · skip
    have w_3 := wn_t c_2
    refine lv_aload_n hC.1 hC.2.1 d_md_tick_15 rfl (lv_at hl 0 rfl) ?_
    refine lv_iload_n hC.1 hC.2.1 d_md_tick_16 rfl (lv_at hl 1 rfl) ?_
    refine pf_md_78 (x := t) hC hw d_md_tick_17 (fun H locs hw => ?_)
    refine lv_iconst (v := iI 1) hC.1 hC.2.1 d_md_tick_20 rfl ?_
    exact rt_WZ hC hr hlk hw (by decide) (by first | rfl | (simp [bI, c_2]; done) | (simp [bI, c_2]; omega)) (by first | rfl | (simp [c_2]; done) | (simp [c_2]; omega)) d_md_tick_21
  · skip
    refine lv_iconst (v := iI 0) hC.1 hC.2.1 d_md_tick_13 rfl ?_
    exact rt_WZ hC hr hlk hw (by decide) (by first | rfl | (simp [bI, c_2]; done) | (simp [bI, c_2]; omega)) (by first | rfl | (simp [c_2]; done) | (simp [c_2]; omega)) d_md_tick_14
set_option maxHeartbeats 4000000 in
set_option maxRecDepth 100000 in
theorem c_md_conflict (l : Launch) (G : Gt) (S : St) (i : Int) (w : Int) (hI : Inv S) (hi : i32 i) (hw : i32 w) (hso : ∀ j : Nat, 0 < S 40 j → 1 ≤ S 35 (S 37 j).toNat) : Met l y_md_conflict [.code y_md_conflict b_md_conflict 3 (some .int)] { frames := 6, cells := 0, slots := 0, locals := 151 } (va_Pc [.ref (G.2.1 25), .int (iI (i)), .int (iI (w))] (fun U => wu G S U)) (qW G (if kCo w = 0 then s_up S 25 0 0 else s_up S 25 0 (kCo w)) (if kCo w = 0 then if i < 0 then -1 else mCf (s_up S 25 0 0) i w else 0)) 0 0 (gA G) := by
  refine mt_of (by decide +kernel) (Nat.le_of_ble_eq_true rfl) ?_
  intro p e s m below meth c ls hadm hC hr hlk hex hw hl
  have hC : CallFix p m c b_md_conflict 3 s _ tws "ChannelRulesModel" := hC
  have hl : lv_has ls 3 [(0, .ref (G.2.1 25)), (1, .int (iI (i))), (2, .int (iI (w)))] := hl
  refine lv_iload_n hC.1 hC.2.1 d_md_conflict_0 rfl (lv_at hl 2 rfl) ?_
  refine lv_iconst (v := iI 0) hC.1 hC.2.1 d_md_conflict_1 rfl ?_
  refine lv_iconst (v := iI 3) hC.1 hC.2.1 d_md_conflict_2 rfl ?_
  refine go_R (ca_S (As := [.int (iI (w)), .int (iI (0)), .int (iI (3))]) (rest := []) hC hw (c_md_in l G S w 0 3 (by omega) (by omega) (by omega)) (cv_md_86 hC rfl rfl (Nat.le_of_ble_eq_true rfl) (Nat.le_of_ble_eq_true rfl)) rfl hl.1 rfl (Nat.le_of_ble_eq_true rfl) d_md_conflict_3 ⟨Nat.le_of_ble_eq_true rfl, Nat.le_of_ble_eq_true rfl⟩) ?_
  refine ir_bne (tgt := 15) hC d_md_conflict_6 (by decide) (fun c_1 => ?_) (fun c_1 => ?_)
  · skip
    have w_2 := wn_t c_1
    refine lv_aload_n hC.1 hC.2.1 d_md_conflict_15 rfl (lv_at hl 0 rfl) ?_
    refine lv_iconst (v := iI 0) hC.1 hC.2.1 d_md_conflict_16 rfl ?_
    refine pf_md_65 (x := 0) hC hw d_md_conflict_17 (fun H locs hw => ?_)
    have hI_3 := Inv.up (q := 25) (i := 0) (x := 0) hI (by omega) (show _ ≤ 2 from by omega)
    have hso1 : ∀ j : Nat, 0 < (s_up S 25 0 0) 40 j → 1 ≤ (s_up S 25 0 0) 35 ((s_up S 25 0 0) 37 j).toNat := by simpa [s_up_cell] using hso
    refine lv_iload_n hC.1 hC.2.1 d_md_conflict_20 rfl (lv_at hl 1 rfl) ?_
    refine ir_if_ge (tgt := 28) hC.1 hC.2.1 d_md_conflict_21 (by decide) ⟨by omega, by omega⟩ (fun c_4 => ?_) (fun c_4 => ?_)
    · skip
      refine lv_aload_n hC.1 hC.2.1 d_md_conflict_28 rfl (lv_at hl 0 rfl) ?_
      refine lv_iload_n hC.1 hC.2.1 d_md_conflict_29 rfl (lv_at hl 1 rfl) ?_
      refine lv_iload_n hC.1 hC.2.1 d_md_conflict_30 rfl (lv_at hl 2 rfl) ?_
      refine go_R (ca_V (As := [.int (iI (i)), .int (iI (w))]) (rest := []) hC hw (c_md_conflicts l G (s_up S 25 0 0) i w hI_3 (by omega) (by omega) (by assumption)) (cv_md_153 hC rfl rfl (Nat.le_of_ble_eq_true rfl) (Nat.le_of_ble_eq_true rfl)) (by decide) rfl rfl rfl hl.1 rfl (Nat.le_of_ble_eq_true rfl) d_md_conflict_31 ⟨Nat.le_of_ble_eq_true rfl, Nat.le_of_ble_eq_true rfl⟩) ?_
      have r_5 := mCf_b hI_3 w (show 0 ≤ i ∧ i ≤ 2147483647 by omega)
      have hk_6 : kCo w = 0 := (by first | (simp [kCo, c_1, c_4]; done) | (simp [kCo, c_1, c_4]; omega) | (simp [kCo, c_1, c_4]; done) | (simp [kCo, c_1, c_4]; omega) | (simp [kCo, c_1]; done) | (simp [kCo, c_1]; omega) | omega)
      exact rt_W hC hr hlk hw (by rw [if_pos hk_6] <;> first | (rw [if_pos (by omega)]; done) | (rw [if_neg (by omega)])) (by rw [if_pos hk_6] <;> first | rfl | (simp [s_up_at, c_1, c_4]; done)) d_md_conflict_34
    · skip
      refine lv_iconst (v := iI (-1)) hC.1 hC.2.1 d_md_conflict_24 rfl ?_
      refine lv_goto (tgt := 34) hC.1 hC.2.1 d_md_conflict_25 (by decide) ?_
      have hk_7 : kCo w = 0 := (by first | (simp [kCo, c_1, c_4]; done) | (simp [kCo, c_1, c_4]; omega) | (simp [kCo, c_1, c_4]; done) | (simp [kCo, c_1, c_4]; omega) | (simp [kCo, c_1]; done) | (simp [kCo, c_1]; omega) | omega)
      exact rt_W hC hr hlk hw (by rw [if_pos hk_7] <;> first | (rw [if_pos (by omega)]; done) | (rw [if_neg (by omega)])) (by rw [if_pos hk_7] <;> first | rfl | (simp [s_up_at, c_1, c_4]; done)) d_md_conflict_34
  · skip
    refine lv_aload_n hC.1 hC.2.1 d_md_conflict_9 rfl (lv_at hl 0 rfl) ?_
    refine lv_iconst (v := iI 1) hC.1 hC.2.1 d_md_conflict_10 rfl ?_
    refine go_W (ca_V (As := [.int (iI (1))]) (rest := []) hC hw (c_md_fails l G S 1 (by omega)) (cv_md_90 hC rfl rfl (Nat.le_of_ble_eq_true rfl) (Nat.le_of_ble_eq_true rfl)) (by decide) rfl rfl rfl hl.1 rfl (Nat.le_of_ble_eq_true rfl) d_md_conflict_11 ⟨Nat.le_of_ble_eq_true rfl, Nat.le_of_ble_eq_true rfl⟩) hw (fun H locs hw => ?_)
    have hk_8 : kCo w = 1 := (by first | (simp [kCo, c_1]; done) | (simp [kCo, c_1]; omega) | (simp [kCo, c_1]; done) | (simp [kCo, c_1]; omega) | (simp [kCo, c_1]; done) | (simp [kCo, c_1]; omega) | omega)
    exact rt_W hC hr hlk hw (by rw [if_neg (by omega)]) (by rw [if_neg (by omega), hk_8]) d_md_conflict_14
set_option maxHeartbeats 4000000 in
set_option maxRecDepth 100000 in
theorem c_md_route (l : Launch) (G : Gt) (S : St) (sh : Int) (a : Int) (b : Int) (w : Int) (hI : Inv S) (hsh : i32 sh) (ha : i32 a) (hb : i32 b) (hw : i32 w) (hsp2 : ∀ j : Nat, (j : Int) < S 25 10 → 1 ≤ S 35 j) (hle : ∀ j : Nat, (j : Int) < S 25 1 → 1 ≤ S 28 j) : Met l y_md_route [.code y_md_route b_md_route 5 (some .int)] { frames := 3, cells := 0, slots := 0, locals := 74 } (va_Pc [.ref (G.2.1 25), .int (iI (sh)), .int (iI (a)), .int (iI (b)), .int (iI (w))] (fun U => wu G S U)) (qW G (if kmR S sh a b w = 0 then (mLy (s_up S 25 0 0) sh a b).1 else s_up S 25 0 (kmR S sh a b w)) (if kmR S sh a b w = 0 then mRo (s_up S 25 0 0) sh a b w else 0)) 0 0 (gA G) := by
  refine mt_of (by decide +kernel) (Nat.le_of_ble_eq_true rfl) ?_
  intro p e s m below meth c ls hadm hC hr hlk hex hw hl
  have hC : CallFix p m c b_md_route 5 s _ tws "ChannelRulesModel" := hC
  have hl : lv_has ls 5 [(0, .ref (G.2.1 25)), (1, .int (iI (sh))), (2, .int (iI (a))), (3, .int (iI (b))), (4, .int (iI (w)))] := hl
  refine lv_aload_n hC.1 hC.2.1 d_md_route_0 rfl (lv_at hl 0 rfl) ?_
  refine lv_iload_n hC.1 hC.2.1 d_md_route_1 rfl (lv_at hl 1 rfl) ?_
  refine go_R (ca_V (As := [.int (iI (sh))]) (rest := []) hC hw (c_md_isShip l G S sh hI (by omega)) (cv_md_113 hC rfl rfl (Nat.le_of_ble_eq_true rfl) (Nat.le_of_ble_eq_true rfl)) (by decide) rfl rfl rfl hl.1 rfl (Nat.le_of_ble_eq_true rfl) d_md_route_2 ⟨Nat.le_of_ble_eq_true rfl, Nat.le_of_ble_eq_true rfl⟩) ?_
  refine ir_beq (tgt := 32) hC d_md_route_5 (by decide) (fun c_1 => ?_) (fun c_1 => ?_)
  · skip
    refine lv_aload_n hC.1 hC.2.1 d_md_route_32 rfl (lv_at hl 0 rfl) ?_
    refine lv_iconst (v := iI 1) hC.1 hC.2.1 d_md_route_33 rfl ?_
    refine go_W (ca_V (As := [.int (iI (1))]) (rest := []) hC hw (c_md_fails l G S 1 (by omega)) (cv_md_90 hC rfl rfl (Nat.le_of_ble_eq_true rfl) (Nat.le_of_ble_eq_true rfl)) (by decide) rfl rfl rfl hl.1 rfl (Nat.le_of_ble_eq_true rfl) d_md_route_34 ⟨Nat.le_of_ble_eq_true rfl, Nat.le_of_ble_eq_true rfl⟩) hw (fun H locs hw => ?_)
    have hk_2 : kmR S sh a b w = 1 := (by first | (simp [kmR, c_1]; done) | (simp [kmR, c_1]; omega) | (simp [kmR, c_1]; done) | (simp [kmR, c_1]; omega) | (simp [kmR, c_1]; done) | (simp [kmR, c_1]; omega) | omega)
    exact rt_W hC hr hlk hw (by rw [if_neg (by omega)]) (by rw [if_neg (by omega), hk_2]) d_md_route_37
  · skip
    have w_3 := wn_t c_1
    refine lv_iload_n hC.1 hC.2.1 d_md_route_8 rfl (lv_at hl 2 rfl) ?_
    refine go_R (ca_S (As := [.int (iI (a))]) (rest := []) hC hw (c_md_isPoint l G S a (by omega)) (cv_md_82 hC rfl rfl (Nat.le_of_ble_eq_true rfl) (Nat.le_of_ble_eq_true rfl)) rfl hl.1 rfl (Nat.le_of_ble_eq_true rfl) d_md_route_9 ⟨Nat.le_of_ble_eq_true rfl, Nat.le_of_ble_eq_true rfl⟩) ?_
    refine ir_beq (tgt := 32) hC d_md_route_12 (by decide) (fun c_4 => ?_) (fun c_4 => ?_)
    · skip
      refine lv_aload_n hC.1 hC.2.1 d_md_route_32 rfl (lv_at hl 0 rfl) ?_
      refine lv_iconst (v := iI 1) hC.1 hC.2.1 d_md_route_33 rfl ?_
      refine go_W (ca_V (As := [.int (iI (1))]) (rest := []) hC hw (c_md_fails l G S 1 (by omega)) (cv_md_90 hC rfl rfl (Nat.le_of_ble_eq_true rfl) (Nat.le_of_ble_eq_true rfl)) (by decide) rfl rfl rfl hl.1 rfl (Nat.le_of_ble_eq_true rfl) d_md_route_34 ⟨Nat.le_of_ble_eq_true rfl, Nat.le_of_ble_eq_true rfl⟩) hw (fun H locs hw => ?_)
      have hk_5 : kmR S sh a b w = 1 := (by first | (simp [kmR, c_1, c_4]; done) | (simp [kmR, c_1, c_4]; omega) | (simp [kmR, c_1, c_4]; done) | (simp [kmR, c_1, c_4]; omega) | (simp [kmR, c_1, c_4]; done) | (simp [kmR, c_1, c_4]; omega) | omega)
      exact rt_W hC hr hlk hw (by rw [if_neg (by omega)]) (by rw [if_neg (by omega), hk_5]) d_md_route_37
    · skip
      have w_6 := wn_t c_4
      refine lv_iload_n hC.1 hC.2.1 d_md_route_15 rfl (lv_at hl 3 rfl) ?_
      refine go_R (ca_S (As := [.int (iI (b))]) (rest := []) hC hw (c_md_isPoint l G S b (by omega)) (cv_md_82 hC rfl rfl (Nat.le_of_ble_eq_true rfl) (Nat.le_of_ble_eq_true rfl)) rfl hl.1 rfl (Nat.le_of_ble_eq_true rfl) d_md_route_16 ⟨Nat.le_of_ble_eq_true rfl, Nat.le_of_ble_eq_true rfl⟩) ?_
      refine ir_beq (tgt := 32) hC d_md_route_19 (by decide) (fun c_7 => ?_) (fun c_7 => ?_)
      · skip
        refine lv_aload_n hC.1 hC.2.1 d_md_route_32 rfl (lv_at hl 0 rfl) ?_
        refine lv_iconst (v := iI 1) hC.1 hC.2.1 d_md_route_33 rfl ?_
        refine go_W (ca_V (As := [.int (iI (1))]) (rest := []) hC hw (c_md_fails l G S 1 (by omega)) (cv_md_90 hC rfl rfl (Nat.le_of_ble_eq_true rfl) (Nat.le_of_ble_eq_true rfl)) (by decide) rfl rfl rfl hl.1 rfl (Nat.le_of_ble_eq_true rfl) d_md_route_34 ⟨Nat.le_of_ble_eq_true rfl, Nat.le_of_ble_eq_true rfl⟩) hw (fun H locs hw => ?_)
        have hk_8 : kmR S sh a b w = 1 := (by first | (simp [kmR, c_1, c_4, c_7]; done) | (simp [kmR, c_1, c_4, c_7]; omega) | (simp [kmR, c_1, c_4, c_7]; done) | (simp [kmR, c_1, c_4, c_7]; omega) | (simp [kmR, c_1, c_4, c_7]; done) | (simp [kmR, c_1, c_4, c_7]; omega) | omega)
        exact rt_W hC hr hlk hw (by rw [if_neg (by omega)]) (by rw [if_neg (by omega), hk_8]) d_md_route_37
      · skip
        have w_9 := wn_t c_7
        refine lv_iload hC.1 hC.2.1 d_md_route_22 (lv_at hl 4 rfl) ?_
        refine lv_iconst (v := iI 0) hC.1 hC.2.1 d_md_route_24 rfl ?_
        refine lv_iconst (v := iI 2) hC.1 hC.2.1 d_md_route_25 rfl ?_
        refine go_R (ca_S (As := [.int (iI (w)), .int (iI (0)), .int (iI (2))]) (rest := []) hC hw (c_md_in l G S w 0 2 (by omega) (by omega) (by omega)) (cv_md_86 hC rfl rfl (Nat.le_of_ble_eq_true rfl) (Nat.le_of_ble_eq_true rfl)) rfl hl.1 rfl (Nat.le_of_ble_eq_true rfl) d_md_route_26 ⟨Nat.le_of_ble_eq_true rfl, Nat.le_of_ble_eq_true rfl⟩) ?_
        refine ir_bne (tgt := 38) hC d_md_route_29 (by decide) (fun c_10 => ?_) (fun c_10 => ?_)
        · skip
          have w_11 := wn_t c_10
          refine lv_aload_n hC.1 hC.2.1 d_md_route_38 rfl (lv_at hl 0 rfl) ?_
          refine lv_iconst (v := iI 0) hC.1 hC.2.1 d_md_route_39 rfl ?_
          refine pf_md_65 (x := 0) hC hw d_md_route_40 (fun H locs hw => ?_)
          have hI_12 := Inv.up (q := 25) (i := 0) (x := 0) hI (by omega) (show _ ≤ 2 from by omega)
          have hs1 : 1 ≤ (s_up S 25 0 0) 35 sh.toNat := by simpa [s_up_cell] using hsp2 sh.toNat (by omega)
          have hle1 : ∀ j : Nat, (j : Int) < (s_up S 25 0 0) 25 1 → 1 ≤ (s_up S 25 0 0) 28 j := by simpa [s_up_at] using hle
          have b10 := iv_25s hI
          refine lv_aload_n hC.1 hC.2.1 d_md_route_43 rfl (lv_at hl 0 rfl) ?_
          refine lv_iload_n hC.1 hC.2.1 d_md_route_44 rfl (lv_at hl 1 rfl) ?_
          refine lv_iload_n hC.1 hC.2.1 d_md_route_45 rfl (lv_at hl 2 rfl) ?_
          refine lv_iload_n hC.1 hC.2.1 d_md_route_46 rfl (lv_at hl 3 rfl) ?_
          refine go_W (ca_V (As := [.int (iI (sh)), .int (iI (a)), .int (iI (b))]) (rest := []) hC hw (c_md_lays l G (s_up S 25 0 0) sh a b hI_12 (by omega) (by omega) (by omega) (by omega) (by assumption)) (cv_md_116 hC rfl rfl (Nat.le_of_ble_eq_true rfl) (Nat.le_of_ble_eq_true rfl)) (by decide) rfl rfl rfl hl.1 rfl (Nat.le_of_ble_eq_true rfl) d_md_route_47 ⟨Nat.le_of_ble_eq_true rfl, Nat.le_of_ble_eq_true rfl⟩) hw (fun H locs hw => ?_)
          refine ir_bne (tgt := 55) hC d_md_route_50 (by decide) (fun c_13 => ?_) (fun c_13 => ?_)
          · skip
            refine lv_iload hC.1 hC.2.1 d_md_route_55 (lv_at hl 4 rfl) ?_
            refine ir_if_ne (tgt := 69) hC.1 hC.2.1 d_md_route_57 (by decide) ⟨by omega, by omega⟩ (fun c_14 => ?_) (fun c_14 => ?_)
            · skip
              refine lv_iload hC.1 hC.2.1 d_md_route_69 (lv_at hl 4 rfl) ?_
              refine lv_iconst (v := iI 1) hC.1 hC.2.1 d_md_route_71 rfl ?_
              refine ir_ne (tgt := 84) hC.1 hC.2.1 d_md_route_72 (by decide) ⟨by omega, by omega⟩ (by decide) (fun c_15 => ?_) (fun c_15 => ?_)
              · skip
                refine lv_aload_n hC.1 hC.2.1 d_md_route_84 rfl (lv_at hl 0 rfl) ?_
                refine gf_md_53 hC hw d_md_route_85 ?_
                refine lv_iconst (v := iI 0) hC.1 hC.2.1 d_md_route_88 rfl ?_
                refine lc_40 0 hC hw (by decide) d_md_route_89 ?_
                have b_16 := iv_40 (mLy_I a hI_12 (show 0 ≤ sh ∧ sh < 12 by omega) (show 0 ≤ a ∧ a ≤ 7 by omega) (show 0 ≤ b ∧ b ≤ 7 by omega) (by first | assumption | (simp [s_up_cell]; assumption)) (by first | assumption | (simp [s_up_cell]; assumption))) 0
                have hk_17 : kmR S sh a b w = 0 := (by first | (simp [kmR, c_1, c_4, c_7, c_10, c_13, c_14, c_15]; done) | (simp [kmR, c_1, c_4, c_7, c_10, c_13, c_14, c_15]; omega) | (simp [kmR, c_1, c_4, c_7, c_10, c_13, c_14, c_15]; done) | (simp [kmR, c_1, c_4, c_7, c_10, c_13, c_14, c_15]; omega) | (simp [kmR, c_1, c_4, c_7, c_10, c_13]; done) | (simp [kmR, c_1, c_4, c_7, c_10, c_13]; omega) | omega)
                exact rt_W hC hr hlk hw (by rw [if_pos hk_17] <;> (unfold mRo; first | (rw [if_pos (by assumption)]; done) | (rw [if_neg (by simp [c_1, c_4, c_7, c_10, c_13])]; first | (rw [if_pos (by omega)]; done) | (rw [if_neg (by omega), if_pos (by omega)]; done) | (rw [if_neg (by omega), if_neg (by omega)]; done)))) (by rw [if_pos hk_17] <;> rfl) d_md_route_90
              · skip
                refine lv_aload_n hC.1 hC.2.1 d_md_route_75 rfl (lv_at hl 0 rfl) ?_
                refine gf_md_56 hC hw d_md_route_76 ?_
                refine lv_iconst (v := iI 0) hC.1 hC.2.1 d_md_route_79 rfl ?_
                refine lc_41 0 hC hw (by decide) d_md_route_80 ?_
                have b_18 := iv_41 (mLy_I a hI_12 (show 0 ≤ sh ∧ sh < 12 by omega) (show 0 ≤ a ∧ a ≤ 7 by omega) (show 0 ≤ b ∧ b ≤ 7 by omega) (by first | assumption | (simp [s_up_cell]; assumption)) (by first | assumption | (simp [s_up_cell]; assumption))) 0
                refine lv_goto (tgt := 90) hC.1 hC.2.1 d_md_route_81 (by decide) ?_
                have hk_19 : kmR S sh a b w = 0 := (by first | (simp [kmR, c_1, c_4, c_7, c_10, c_13, c_14, c_15]; done) | (simp [kmR, c_1, c_4, c_7, c_10, c_13, c_14, c_15]; omega) | (simp [kmR, c_1, c_4, c_7, c_10, c_13, c_14, c_15]; done) | (simp [kmR, c_1, c_4, c_7, c_10, c_13, c_14, c_15]; omega) | (simp [kmR, c_1, c_4, c_7, c_10, c_13]; done) | (simp [kmR, c_1, c_4, c_7, c_10, c_13]; omega) | omega)
                exact rt_W hC hr hlk hw (by rw [if_pos hk_19] <;> (unfold mRo; first | (rw [if_pos (by assumption)]; done) | (rw [if_neg (by simp [c_1, c_4, c_7, c_10, c_13])]; first | (rw [if_pos (by omega)]; done) | (rw [if_neg (by omega), if_pos (by omega)]; done) | (rw [if_neg (by omega), if_neg (by omega)]; done)))) (by rw [if_pos hk_19] <;> rfl) d_md_route_90
            · skip
              refine lv_aload_n hC.1 hC.2.1 d_md_route_60 rfl (lv_at hl 0 rfl) ?_
              refine gf_md_62 hC hw d_md_route_61 ?_
              refine lv_iload_n hC.1 hC.2.1 d_md_route_64 rfl (lv_at hl 2 rfl) ?_
              refine ld_43 hC hw (by omega) (by omega) d_md_route_65 ?_
              have b_20 := iv_43 (mLy_I a hI_12 (show 0 ≤ sh ∧ sh < 12 by omega) (show 0 ≤ a ∧ a ≤ 7 by omega) (show 0 ≤ b ∧ b ≤ 7 by omega) (by first | assumption | (simp [s_up_cell]; assumption)) (by first | assumption | (simp [s_up_cell]; assumption))) a.toNat
              refine lv_goto (tgt := 90) hC.1 hC.2.1 d_md_route_66 (by decide) ?_
              have hk_21 : kmR S sh a b w = 0 := (by first | (simp [kmR, c_1, c_4, c_7, c_10, c_13, c_14]; done) | (simp [kmR, c_1, c_4, c_7, c_10, c_13, c_14]; omega) | (simp [kmR, c_1, c_4, c_7, c_10, c_13, c_14]; done) | (simp [kmR, c_1, c_4, c_7, c_10, c_13, c_14]; omega) | (simp [kmR, c_1, c_4, c_7, c_10, c_13]; done) | (simp [kmR, c_1, c_4, c_7, c_10, c_13]; omega) | omega)
              exact rt_W hC hr hlk hw (by rw [if_pos hk_21] <;> (unfold mRo; first | (rw [if_pos (by assumption)]; done) | (rw [if_neg (by simp [c_1, c_4, c_7, c_10, c_13])]; first | (rw [if_pos (by omega)]; done) | (rw [if_neg (by omega), if_pos (by omega)]; done) | (rw [if_neg (by omega), if_neg (by omega)]; done)))) (by rw [if_pos hk_21] <;> rfl) d_md_route_90
          · skip
            refine lv_iconst (v := iI (-1)) hC.1 hC.2.1 d_md_route_53 rfl ?_
            have hk_22 : kmR S sh a b w = 0 := (by first | (simp [kmR, c_1, c_4, c_7, c_10, c_13]; done) | (simp [kmR, c_1, c_4, c_7, c_10, c_13]; omega) | (simp [kmR, c_1, c_4, c_7, c_10, c_13]; done) | (simp [kmR, c_1, c_4, c_7, c_10, c_13]; omega) | (simp [kmR, c_1, c_4, c_7, c_10, c_13]; done) | (simp [kmR, c_1, c_4, c_7, c_10, c_13]; omega) | omega)
            exact rt_W hC hr hlk hw (by rw [if_pos hk_22] <;> (unfold mRo; first | (rw [if_pos (by assumption)]; done) | (rw [if_neg (by simp [c_1, c_4, c_7, c_10, c_13])]; first | (rw [if_pos (by omega)]; done) | (rw [if_neg (by omega), if_pos (by omega)]; done) | (rw [if_neg (by omega), if_neg (by omega)]; done)))) (by rw [if_pos hk_22] <;> rfl) d_md_route_54
        · skip
          refine lv_aload_n hC.1 hC.2.1 d_md_route_32 rfl (lv_at hl 0 rfl) ?_
          refine lv_iconst (v := iI 1) hC.1 hC.2.1 d_md_route_33 rfl ?_
          refine go_W (ca_V (As := [.int (iI (1))]) (rest := []) hC hw (c_md_fails l G S 1 (by omega)) (cv_md_90 hC rfl rfl (Nat.le_of_ble_eq_true rfl) (Nat.le_of_ble_eq_true rfl)) (by decide) rfl rfl rfl hl.1 rfl (Nat.le_of_ble_eq_true rfl) d_md_route_34 ⟨Nat.le_of_ble_eq_true rfl, Nat.le_of_ble_eq_true rfl⟩) hw (fun H locs hw => ?_)
          have hk_23 : kmR S sh a b w = 1 := (by first | (simp [kmR, c_1, c_4, c_7, c_10]; done) | (simp [kmR, c_1, c_4, c_7, c_10]; omega) | (simp [kmR, c_1, c_4, c_7, c_10]; done) | (simp [kmR, c_1, c_4, c_7, c_10]; omega) | (simp [kmR, c_1, c_4, c_7, c_10]; done) | (simp [kmR, c_1, c_4, c_7, c_10]; omega) | omega)
          exact rt_W hC hr hlk hw (by rw [if_neg (by omega)]) (by rw [if_neg (by omega), hk_23]) d_md_route_37
set_option maxHeartbeats 4000000 in
set_option maxRecDepth 100000 in
theorem c_md_change (l : Launch) (G : Gt) (S : St) (k : Int) (t : Int) (hI : Inv S) (hk : i32 k) (ht : i32 t) (hso : ∀ j : Nat, 0 < S 40 j → 1 ≤ S 35 (S 37 j).toNat) : Met l y_md_change [.code y_md_change b_md_change 4 (some .int)] { frames := 6, cells := 0, slots := 0, locals := 150 } (va_Pc [.ref (G.2.1 25), .int (iI (k)), .int (iI (t))] (fun U => wu G S U)) (qW G (if kmC S k t = 0 then mChS (s_up S 25 0 0) k t else s_up S 25 0 (kmC S k t)) (if kmC S k t = 0 then mChR (s_up S 25 0 0) k t else 0)) 0 0 (gA G) := by
  refine mt_of (by decide +kernel) (Nat.le_of_ble_eq_true rfl) ?_
  intro p e s m below meth c ls hadm hC hr hlk hex hw hl
  have hC : CallFix p m c b_md_change 4 s _ tws "ChannelRulesModel" := hC
  have hl : lv_has ls 4 [(0, .ref (G.2.1 25)), (1, .int (iI (k))), (2, .int (iI (t)))] := hl
  have i3 := iv_25k hI
  have i15 := iv_25 hI 15
  refine lv_aload_n hC.1 hC.2.1 d_md_change_0 rfl (lv_at hl 0 rfl) ?_
  refine lv_iload_n hC.1 hC.2.1 d_md_change_1 rfl (lv_at hl 1 rfl) ?_
  refine go_R (ca_V (As := [.int (iI (k))]) (rest := []) hC hw (c_md_isSlot l G S k hI (by omega)) (cv_md_150 hC rfl rfl (Nat.le_of_ble_eq_true rfl) (Nat.le_of_ble_eq_true rfl)) (by decide) rfl rfl rfl hl.1 rfl (Nat.le_of_ble_eq_true rfl) d_md_change_2 ⟨Nat.le_of_ble_eq_true rfl, Nat.le_of_ble_eq_true rfl⟩) ?_
  refine ir_beq (tgt := 16) hC d_md_change_5 (by decide) (fun c_1 => ?_) (fun c_1 => ?_)
  · skip
    refine lv_aload_n hC.1 hC.2.1 d_md_change_16 rfl (lv_at hl 0 rfl) ?_
    refine lv_iconst (v := iI 1) hC.1 hC.2.1 d_md_change_17 rfl ?_
    refine go_W (ca_V (As := [.int (iI (1))]) (rest := []) hC hw (c_md_fails l G S 1 (by omega)) (cv_md_90 hC rfl rfl (Nat.le_of_ble_eq_true rfl) (Nat.le_of_ble_eq_true rfl)) (by decide) rfl rfl rfl hl.1 rfl (Nat.le_of_ble_eq_true rfl) d_md_change_18 ⟨Nat.le_of_ble_eq_true rfl, Nat.le_of_ble_eq_true rfl⟩) hw (fun H locs hw => ?_)
    have hk_2 : kmC S k t = 1 := (by first | (simp [kmC, c_1]; done) | (simp [kmC, c_1]; omega) | (simp [kmC, c_1]; done) | (simp [kmC, c_1]; omega) | (simp [kmC, c_1]; done) | (simp [kmC, c_1]; omega) | omega)
    exact rt_W hC hr hlk hw (by rw [if_neg (by omega)]) (by rw [if_neg (by omega), hk_2]) d_md_change_21
  · skip
    have w_3 := wn_t c_1
    refine lv_aload_n hC.1 hC.2.1 d_md_change_8 rfl (lv_at hl 0 rfl) ?_
    refine lv_iload_n hC.1 hC.2.1 d_md_change_9 rfl (lv_at hl 2 rfl) ?_
    refine go_R (ca_V (As := [.int (iI (t))]) (rest := []) hC hw (c_md_isTime l G S t hI (by omega)) (cv_md_140 hC rfl rfl (Nat.le_of_ble_eq_true rfl) (Nat.le_of_ble_eq_true rfl)) (by decide) rfl rfl rfl hl.1 rfl (Nat.le_of_ble_eq_true rfl) d_md_change_10 ⟨Nat.le_of_ble_eq_true rfl, Nat.le_of_ble_eq_true rfl⟩) ?_
    refine ir_bne (tgt := 22) hC d_md_change_13 (by decide) (fun c_4 => ?_) (fun c_4 => ?_)
    · skip
      have w_5 := wn_t c_4
      refine lv_aload_n hC.1 hC.2.1 d_md_change_22 rfl (lv_at hl 0 rfl) ?_
      refine lv_iconst (v := iI 0) hC.1 hC.2.1 d_md_change_23 rfl ?_
      refine pf_md_65 (x := 0) hC hw d_md_change_24 (fun H locs hw => ?_)
      have hI_6 := Inv.up (q := 25) (i := 0) (x := 0) hI (by omega) (show _ ≤ 2 from by omega)
      refine lv_aload_n hC.1 hC.2.1 d_md_change_27 rfl (lv_at hl 0 rfl) ?_
      refine gf_md_49 hC hw d_md_change_28 ?_
      refine lv_iload_n hC.1 hC.2.1 d_md_change_31 rfl (lv_at hl 1 rfl) ?_
      refine ld_39 hC hw (by omega) (by omega) d_md_change_32 ?_
      have b_7 := iv_39 hI_6 k.toNat
      refine ir_if_eq (tgt := 49) hC.1 hC.2.1 d_md_change_33 (by decide) ⟨by omega, by omega⟩ (fun c_8 => ?_) (fun c_8 => ?_)
      · skip
        refine lv_iconst (v := iI (-1)) hC.1 hC.2.1 d_md_change_49 rfl ?_
        have hk_9 : kmC S k t = 0 := (by first | (simp [kmC, c_1, c_4, c_8]; done) | (simp [kmC, c_1, c_4, c_8]; omega) | (simp [kmC, c_1, c_4, c_8]; done) | (simp [kmC, c_1, c_4, c_8]; omega) | (simp [kmC, c_1, c_4]; done) | (simp [kmC, c_1, c_4]; omega) | omega)
        exact rt_W hC hr hlk hw (by rw [if_pos hk_9] <;> (unfold mChR; rw [if_pos (by omega)])) (by rw [if_pos hk_9] <;> (unfold mChS; rw [if_pos (by omega)])) d_md_change_50
      · skip
        refine lv_aload_n hC.1 hC.2.1 d_md_change_36 rfl (lv_at hl 0 rfl) ?_
        refine gf_md_46 hC hw d_md_change_37 ?_
        refine lv_iload_n hC.1 hC.2.1 d_md_change_40 rfl (lv_at hl 1 rfl) ?_
        refine ld_38 hC hw (by omega) (by omega) d_md_change_41 ?_
        have b_10 := iv_38 hI_6 k.toNat
        refine lv_aload_n hC.1 hC.2.1 d_md_change_42 rfl (lv_at hl 0 rfl) ?_
        refine gf_md_78 hC hw d_md_change_43 ?_
        have b_11 := iv_25 hI_6 15
        refine ir_gt (tgt := 51) hC.1 hC.2.1 d_md_change_46 (by decide) ⟨by omega, by omega⟩ ⟨by omega, by omega⟩ (fun c_12 => ?_) (fun c_12 => ?_)
        · skip
          refine lv_aload_n hC.1 hC.2.1 d_md_change_51 rfl (lv_at hl 0 rfl) ?_
          refine gf_md_46 hC hw d_md_change_52 ?_
          refine lv_iload_n hC.1 hC.2.1 d_md_change_55 rfl (lv_at hl 1 rfl) ?_
          refine ld_38 hC hw (by omega) (by omega) d_md_change_56 ?_
          have b_13 := iv_38 hI_6 k.toNat
          refine lv_istore_n (lv' := [(3, .int (iI ((s_up S 25 0 0) 38 k.toNat))), (0, .ref (G.2.1 25)), (1, .int (iI (k))), (2, .int (iI (t)))]) hC.1 hC.2.1 d_md_change_57 rfl hl (by decide) rfl (fun ls hl => ?_)
          refine lv_aload_n hC.1 hC.2.1 d_md_change_58 rfl (lv_at hl 1 rfl) ?_
          refine gf_md_46 hC hw d_md_change_59 ?_
          refine lv_iload_n hC.1 hC.2.1 d_md_change_62 rfl (lv_at hl 2 rfl) ?_
          refine lv_iload_n hC.1 hC.2.1 d_md_change_63 rfl (lv_at hl 3 rfl) ?_
          refine st_38 (x := t) (z := k) hC hw (by omega) (by omega) d_md_change_64 (fun H locs hw => ?_)
          have hI_14 := Inv.up (q := 38) (i := k.toNat) (x := t) hI_6 (by omega) (show _ ≤ 100000 from by omega)
          have hso1 : ∀ j : Nat, 0 < (s_up (s_up S 25 0 0) 38 k.toNat t) 40 j → 1 ≤ (s_up (s_up S 25 0 0) 38 k.toNat t) 35 ((s_up (s_up S 25 0 0) 38 k.toNat t) 37 j).toNat := by simpa [s_up_cell] using hso
          refine lv_aload_n hC.1 hC.2.1 d_md_change_65 rfl (lv_at hl 1 rfl) ?_
          refine lv_iload_n hC.1 hC.2.1 d_md_change_66 rfl (lv_at hl 2 rfl) ?_
          refine lv_iload_n hC.1 hC.2.1 d_md_change_67 rfl (lv_at hl 2 rfl) ?_
          refine go_R (ca_V (As := [.int (iI (k)), .int (iI (k))]) (rest := []) hC hw (c_md_against l G (s_up (s_up S 25 0 0) 38 k.toNat t) k k hI_14 (by omega) (by omega) (by assumption)) (cv_md_147 hC rfl rfl (Nat.le_of_ble_eq_true rfl) (Nat.le_of_ble_eq_true rfl)) (by decide) rfl rfl rfl hl.1 rfl (Nat.le_of_ble_eq_true rfl) d_md_change_68 ⟨Nat.le_of_ble_eq_true rfl, Nat.le_of_ble_eq_true rfl⟩) ?_
          have r_15 := mAg_b (s_up (s_up S 25 0 0) 38 k.toNat t) k k 0 ((s_up (s_up S 25 0 0) 38 k.toNat t) 40 k.toNat).toNat
          refine ir_if_le (tgt := 83) hC.1 hC.2.1 d_md_change_71 (by decide) ⟨by omega, by omega⟩ (fun c_16 => ?_) (fun c_16 => ?_)
          · skip
            refine lv_iconst (v := iI 1) hC.1 hC.2.1 d_md_change_83 rfl ?_
            have hk_17 : kmC S k t = 0 := (by first | (simp [kmC, c_1, c_4, c_8, c_12, c_16]; done) | (simp [kmC, c_1, c_4, c_8, c_12, c_16]; omega) | (simp [kmC, c_1, c_4, c_8, c_12, c_16]; done) | (simp [kmC, c_1, c_4, c_8, c_12, c_16]; omega) | (simp [kmC, c_1, c_4]; done) | (simp [kmC, c_1, c_4]; omega) | omega)
            exact rt_W hC hr hlk hw (by rw [if_pos hk_17] <;> (unfold mChR; rw [if_neg (by omega), if_neg (by omega)])) (by rw [if_pos hk_17] <;> (unfold mChS; rw [if_neg (by omega), if_neg (by omega)])) d_md_change_84
          · skip
            refine lv_aload_n hC.1 hC.2.1 d_md_change_74 rfl (lv_at hl 1 rfl) ?_
            refine gf_md_46 hC hw d_md_change_75 ?_
            refine lv_iload_n hC.1 hC.2.1 d_md_change_78 rfl (lv_at hl 2 rfl) ?_
            refine lv_iload_n hC.1 hC.2.1 d_md_change_79 rfl (lv_at hl 0 rfl) ?_
            refine st_38 (x := (s_up S 25 0 0) 38 k.toNat) (z := k) hC hw (by omega) (by omega) d_md_change_80 (fun H locs hw => ?_)
            have hI_18 := Inv.up (q := 38) (i := k.toNat) (x := (s_up S 25 0 0) 38 k.toNat) hI_14 (by omega) (show _ ≤ 100000 from by omega)
            refine lv_iconst (v := iI 0) hC.1 hC.2.1 d_md_change_81 rfl ?_
            have hk_19 : kmC S k t = 0 := (by first | (simp [kmC, c_1, c_4, c_8, c_12, c_16]; done) | (simp [kmC, c_1, c_4, c_8, c_12, c_16]; omega) | (simp [kmC, c_1, c_4, c_8, c_12, c_16]; done) | (simp [kmC, c_1, c_4, c_8, c_12, c_16]; omega) | (simp [kmC, c_1, c_4]; done) | (simp [kmC, c_1, c_4]; omega) | omega)
            exact rt_W hC hr hlk hw (by rw [if_pos hk_19] <;> (unfold mChR; rw [if_neg (by omega), if_pos (by omega)])) (by rw [if_pos hk_19] <;> (unfold mChS; rw [if_neg (by omega), if_pos (by omega)])) d_md_change_82
        · skip
          refine lv_iconst (v := iI (-1)) hC.1 hC.2.1 d_md_change_49 rfl ?_
          have hk_20 : kmC S k t = 0 := (by first | (simp [kmC, c_1, c_4, c_8, c_12]; done) | (simp [kmC, c_1, c_4, c_8, c_12]; omega) | (simp [kmC, c_1, c_4, c_8, c_12]; done) | (simp [kmC, c_1, c_4, c_8, c_12]; omega) | (simp [kmC, c_1, c_4]; done) | (simp [kmC, c_1, c_4]; omega) | omega)
          exact rt_W hC hr hlk hw (by rw [if_pos hk_20] <;> (unfold mChR; rw [if_pos (by omega)])) (by rw [if_pos hk_20] <;> (unfold mChS; rw [if_pos (by omega)])) d_md_change_50
    · skip
      refine lv_aload_n hC.1 hC.2.1 d_md_change_16 rfl (lv_at hl 0 rfl) ?_
      refine lv_iconst (v := iI 1) hC.1 hC.2.1 d_md_change_17 rfl ?_
      refine go_W (ca_V (As := [.int (iI (1))]) (rest := []) hC hw (c_md_fails l G S 1 (by omega)) (cv_md_90 hC rfl rfl (Nat.le_of_ble_eq_true rfl) (Nat.le_of_ble_eq_true rfl)) (by decide) rfl rfl rfl hl.1 rfl (Nat.le_of_ble_eq_true rfl) d_md_change_18 ⟨Nat.le_of_ble_eq_true rfl, Nat.le_of_ble_eq_true rfl⟩) hw (fun H locs hw => ?_)
      have hk_21 : kmC S k t = 1 := (by first | (simp [kmC, c_1, c_4]; done) | (simp [kmC, c_1, c_4]; omega) | (simp [kmC, c_1, c_4]; done) | (simp [kmC, c_1, c_4]; omega) | (simp [kmC, c_1, c_4]; done) | (simp [kmC, c_1, c_4]; omega) | omega)
      exact rt_W hC hr hlk hw (by rw [if_neg (by omega)]) (by rw [if_neg (by omega), hk_21]) d_md_change_21
set_option maxHeartbeats 4000000 in
set_option maxRecDepth 100000 in
theorem c_md_at (l : Launch) (G : Gt) (S : St) (k : Int) (i : Int) (w : Int) (hI : Inv S) (hk : i32 k) (hi : i32 i) (hw : i32 w) (hso : ∀ j : Nat, 0 < S 40 j → 1 ≤ S 35 (S 37 j).toNat) : Met l y_md_at [.code y_md_at b_md_at 4 (some .int)] { frames := 3, cells := 0, slots := 0, locals := 68 } (va_Pc [.ref (G.2.1 25), .int (iI (k)), .int (iI (i)), .int (iI (w))] (fun U => wu G S U)) (qW G (if kmT S k i w = 0 then s_up S 25 0 0 else s_up S 25 0 (kmT S k i w)) (if kmT S k i w = 0 then mAtR (s_up S 25 0 0) k i w else 0)) 0 0 (gA G) := by
  refine mt_of (by decide +kernel) (Nat.le_of_ble_eq_true rfl) ?_
  intro p e s m below meth c ls hadm hC hr hlk hex hw hl
  have hC : CallFix p m c b_md_at 4 s _ tws "ChannelRulesModel" := hC
  have hl : lv_has ls 4 [(0, .ref (G.2.1 25)), (1, .int (iI (k))), (2, .int (iI (i))), (3, .int (iI (w)))] := hl
  have i3 := iv_25k hI
  refine lv_aload_n hC.1 hC.2.1 d_md_at_0 rfl (lv_at hl 0 rfl) ?_
  refine lv_iload_n hC.1 hC.2.1 d_md_at_1 rfl (lv_at hl 1 rfl) ?_
  refine go_R (ca_V (As := [.int (iI (k))]) (rest := []) hC hw (c_md_isSlot l G S k hI (by omega)) (cv_md_150 hC rfl rfl (Nat.le_of_ble_eq_true rfl) (Nat.le_of_ble_eq_true rfl)) (by decide) rfl rfl rfl hl.1 rfl (Nat.le_of_ble_eq_true rfl) d_md_at_2 ⟨Nat.le_of_ble_eq_true rfl, Nat.le_of_ble_eq_true rfl⟩) ?_
  refine ir_beq (tgt := 43) hC d_md_at_5 (by decide) (fun c_1 => ?_) (fun c_1 => ?_)
  · skip
    refine lv_aload_n hC.1 hC.2.1 d_md_at_43 rfl (lv_at hl 0 rfl) ?_
    refine lv_iconst (v := iI 1) hC.1 hC.2.1 d_md_at_44 rfl ?_
    refine go_W (ca_V (As := [.int (iI (1))]) (rest := []) hC hw (c_md_fails l G S 1 (by omega)) (cv_md_90 hC rfl rfl (Nat.le_of_ble_eq_true rfl) (Nat.le_of_ble_eq_true rfl)) (by decide) rfl rfl rfl hl.1 rfl (Nat.le_of_ble_eq_true rfl) d_md_at_45 ⟨Nat.le_of_ble_eq_true rfl, Nat.le_of_ble_eq_true rfl⟩) hw (fun H locs hw => ?_)
    have hk_2 : kmT S k i w = 1 := (by first | (simp [kmT, c_1]; done) | (simp [kmT, c_1]; omega) | (simp [kmT, c_1]; done) | (simp [kmT, c_1]; omega) | (simp [kmT, c_1]; done) | (simp [kmT, c_1]; omega) | omega)
    exact rt_W hC hr hlk hw (by rw [if_neg (by omega)]) (by rw [if_neg (by omega), hk_2]) d_md_at_48
  · skip
    have w_3 := wn_t c_1
    have i40 := iv_40 hI k.toNat
    refine lv_iload_n hC.1 hC.2.1 d_md_at_8 rfl (lv_at hl 2 rfl) ?_
    refine ir_if_lt (tgt := 43) hC.1 hC.2.1 d_md_at_9 (by decide) ⟨by omega, by omega⟩ (fun c_4 => ?_) (fun c_4 => ?_)
    · skip
      refine lv_aload_n hC.1 hC.2.1 d_md_at_43 rfl (lv_at hl 0 rfl) ?_
      refine lv_iconst (v := iI 1) hC.1 hC.2.1 d_md_at_44 rfl ?_
      refine go_W (ca_V (As := [.int (iI (1))]) (rest := []) hC hw (c_md_fails l G S 1 (by omega)) (cv_md_90 hC rfl rfl (Nat.le_of_ble_eq_true rfl) (Nat.le_of_ble_eq_true rfl)) (by decide) rfl rfl rfl hl.1 rfl (Nat.le_of_ble_eq_true rfl) d_md_at_45 ⟨Nat.le_of_ble_eq_true rfl, Nat.le_of_ble_eq_true rfl⟩) hw (fun H locs hw => ?_)
      have hk_5 : kmT S k i w = 1 := (by first | (simp [kmT, c_1, c_4]; done) | (simp [kmT, c_1, c_4]; omega) | (simp [kmT, c_1, c_4]; done) | (simp [kmT, c_1, c_4]; omega) | (simp [kmT, c_1]; done) | (simp [kmT, c_1]; omega) | omega)
      exact rt_W hC hr hlk hw (by rw [if_neg (by omega)]) (by rw [if_neg (by omega), hk_5]) d_md_at_48
    · skip
      refine lv_iload_n hC.1 hC.2.1 d_md_at_12 rfl (lv_at hl 2 rfl) ?_
      refine lv_aload_n hC.1 hC.2.1 d_md_at_13 rfl (lv_at hl 0 rfl) ?_
      refine gf_md_53 hC hw d_md_at_14 ?_
      refine lv_aload_n hC.1 hC.2.1 d_md_at_17 rfl (lv_at hl 0 rfl) ?_
      refine lv_iload_n hC.1 hC.2.1 d_md_at_18 rfl (lv_at hl 1 rfl) ?_
      refine go_R (ca_V (As := [.int (iI (k))]) (rest := [.ref (G.2.1 40), .int (iI (i))]) hC hw (c_md_isSlot l G S k hI (by omega)) (cv_md_150 hC rfl rfl (Nat.le_of_ble_eq_true rfl) (Nat.le_of_ble_eq_true rfl)) (by decide) rfl rfl rfl hl.1 rfl (Nat.le_of_ble_eq_true rfl) d_md_at_19 ⟨Nat.le_of_ble_eq_true rfl, Nat.le_of_ble_eq_true rfl⟩) ?_
      refine ir_beq (tgt := 29) hC d_md_at_22 (by decide) (fun c_6 => ?_) (fun c_6 => ?_)
      · exact Bool.noConfusion (c_6.symm.trans c_1)
      · skip
        have w_7 := wn_t c_6
        refine lv_iload_n hC.1 hC.2.1 d_md_at_25 rfl (lv_at hl 1 rfl) ?_
        refine lv_goto (tgt := 30) hC.1 hC.2.1 d_md_at_26 (by decide) ?_
        refine ld_40 hC hw (by omega) (by omega) d_md_at_30 ?_
        have b_8 := iv_40 hI k.toNat
        refine ir_ge (tgt := 43) hC.1 hC.2.1 d_md_at_31 (by decide) ⟨by omega, by omega⟩ ⟨by omega, by omega⟩ (fun c_9 => ?_) (fun c_9 => ?_)
        · skip
          refine lv_aload_n hC.1 hC.2.1 d_md_at_43 rfl (lv_at hl 0 rfl) ?_
          refine lv_iconst (v := iI 1) hC.1 hC.2.1 d_md_at_44 rfl ?_
          refine go_W (ca_V (As := [.int (iI (1))]) (rest := []) hC hw (c_md_fails l G S 1 (by omega)) (cv_md_90 hC rfl rfl (Nat.le_of_ble_eq_true rfl) (Nat.le_of_ble_eq_true rfl)) (by decide) rfl rfl rfl hl.1 rfl (Nat.le_of_ble_eq_true rfl) d_md_at_45 ⟨Nat.le_of_ble_eq_true rfl, Nat.le_of_ble_eq_true rfl⟩) hw (fun H locs hw => ?_)
          have hk_10 : kmT S k i w = 1 := (by first | (simp [kmT, c_1, c_4, c_6, c_9]; done) | (simp [kmT, c_1, c_4, c_6, c_9]; omega) | (simp [kmT, c_1, c_4, c_6, c_9]; done) | (simp [kmT, c_1, c_4, c_6, c_9]; omega) | (simp [kmT, c_1, c_6]; done) | (simp [kmT, c_1, c_6]; omega) | omega)
          exact rt_W hC hr hlk hw (by rw [if_neg (by omega)]) (by rw [if_neg (by omega), hk_10]) d_md_at_48
        · skip
          refine lv_iload_n hC.1 hC.2.1 d_md_at_34 rfl (lv_at hl 3 rfl) ?_
          refine lv_iconst (v := iI 0) hC.1 hC.2.1 d_md_at_35 rfl ?_
          refine lv_iconst (v := iI 3) hC.1 hC.2.1 d_md_at_36 rfl ?_
          refine go_R (ca_S (As := [.int (iI (w)), .int (iI (0)), .int (iI (3))]) (rest := []) hC hw (c_md_in l G S w 0 3 (by omega) (by omega) (by omega)) (cv_md_86 hC rfl rfl (Nat.le_of_ble_eq_true rfl) (Nat.le_of_ble_eq_true rfl)) rfl hl.1 rfl (Nat.le_of_ble_eq_true rfl) d_md_at_37 ⟨Nat.le_of_ble_eq_true rfl, Nat.le_of_ble_eq_true rfl⟩) ?_
          refine ir_bne (tgt := 49) hC d_md_at_40 (by decide) (fun c_11 => ?_) (fun c_11 => ?_)
          · skip
            have w_12 := wn_t c_11
            refine lv_aload_n hC.1 hC.2.1 d_md_at_49 rfl (lv_at hl 0 rfl) ?_
            refine lv_iconst (v := iI 0) hC.1 hC.2.1 d_md_at_50 rfl ?_
            refine pf_md_65 (x := 0) hC hw d_md_at_51 (fun H locs hw => ?_)
            have hI_13 := Inv.up (q := 25) (i := 0) (x := 0) hI (by omega) (show _ ≤ 2 from by omega)
            have hs1 : 1 ≤ (s_up S 25 0 0) 35 ((s_up S 25 0 0) 37 k.toNat).toNat := by simpa [s_up_cell] using hso k.toNat (by omega)
            refine lv_iload_n hC.1 hC.2.1 d_md_at_54 rfl (lv_at hl 3 rfl) ?_
            refine ir_if_ne (tgt := 72) hC.1 hC.2.1 d_md_at_55 (by decide) ⟨by omega, by omega⟩ (fun c_14 => ?_) (fun c_14 => ?_)
            · skip
              refine lv_iload_n hC.1 hC.2.1 d_md_at_72 rfl (lv_at hl 3 rfl) ?_
              refine lv_iconst (v := iI 1) hC.1 hC.2.1 d_md_at_73 rfl ?_
              refine ir_ne (tgt := 86) hC.1 hC.2.1 d_md_at_74 (by decide) ⟨by omega, by omega⟩ (by decide) (fun c_15 => ?_) (fun c_15 => ?_)
              · skip
                refine lv_iload_n hC.1 hC.2.1 d_md_at_86 rfl (lv_at hl 3 rfl) ?_
                refine lv_iconst (v := iI 2) hC.1 hC.2.1 d_md_at_87 rfl ?_
                refine ir_ne (tgt := 100) hC.1 hC.2.1 d_md_at_88 (by decide) ⟨by omega, by omega⟩ (by decide) (fun c_16 => ?_) (fun c_16 => ?_)
                · skip
                  refine lv_aload_n hC.1 hC.2.1 d_md_at_100 rfl (lv_at hl 0 rfl) ?_
                  refine gf_md_59 hC hw d_md_at_101 ?_
                  refine lv_bipush (v := iI 8) hC.1 hC.2.1 d_md_at_104 (by decide +kernel) ?_
                  refine lv_iload_n hC.1 hC.2.1 d_md_at_106 rfl (lv_at hl 1 rfl) ?_
                  refine ir_mul hC.1 hC.2.1 d_md_at_107 ?_
                  refine lv_iload_n hC.1 hC.2.1 d_md_at_108 rfl (lv_at hl 2 rfl) ?_
                  refine ir_add hC.1 hC.2.1 d_md_at_109 ?_
                  refine ld_42 hC hw (by omega) (by omega) d_md_at_110 ?_
                  have b_17 := iv_42 hI_13 (((8 * k) + i).toNat)
                  have hk_18 : kmT S k i w = 0 := (by first | (simp [kmT, c_1, c_4, c_6, c_9, c_11, c_14, c_15, c_16]; done) | (simp [kmT, c_1, c_4, c_6, c_9, c_11, c_14, c_15, c_16]; omega) | (simp [kmT, c_1, c_4, c_6, c_9, c_11, c_14, c_15, c_16]; done) | (simp [kmT, c_1, c_4, c_6, c_9, c_11, c_14, c_15, c_16]; omega) | (simp [kmT, c_1, c_6, c_11]; done) | (simp [kmT, c_1, c_6, c_11]; omega) | omega)
                  exact rt_W hC hr hlk hw (by rw [if_pos hk_18] <;> (unfold mAtR; first | (rw [if_pos (by omega)]; done) | (rw [if_neg (by omega), if_pos (by omega)]; done) | (rw [if_neg (by omega), if_neg (by omega), if_pos (by omega)]; done) | (rw [if_neg (by omega), if_neg (by omega), if_neg (by omega)]; done))) (by rw [if_pos hk_18] <;> rfl) d_md_at_111
                · skip
                  refine lv_aload_n hC.1 hC.2.1 d_md_at_91 rfl (lv_at hl 0 rfl) ?_
                  refine lv_iload_n hC.1 hC.2.1 d_md_at_92 rfl (lv_at hl 1 rfl) ?_
                  refine lv_iload_n hC.1 hC.2.1 d_md_at_93 rfl (lv_at hl 2 rfl) ?_
                  refine go_R (ca_V (As := [.int (iI (k)), .int (iI (i))]) (rest := []) hC hw (c_md_leaves l G (s_up S 25 0 0) k i hI_13 (by omega) (by omega) (by omega)) (cv_md_122 hC rfl rfl (Nat.le_of_ble_eq_true rfl) (Nat.le_of_ble_eq_true rfl)) (by decide) rfl rfl rfl hl.1 rfl (Nat.le_of_ble_eq_true rfl) d_md_at_94 ⟨Nat.le_of_ble_eq_true rfl, Nat.le_of_ble_eq_true rfl⟩) ?_
                  have r_19 := mLv_b hI_13 k (show 1 ≤ (s_up S 25 0 0) 35 ((s_up S 25 0 0) 37 k.toNat).toNat by omega) i (by omega)
                  refine lv_goto (tgt := 111) hC.1 hC.2.1 d_md_at_97 (by decide) ?_
                  have hk_20 : kmT S k i w = 0 := (by first | (simp [kmT, c_1, c_4, c_6, c_9, c_11, c_14, c_15, c_16]; done) | (simp [kmT, c_1, c_4, c_6, c_9, c_11, c_14, c_15, c_16]; omega) | (simp [kmT, c_1, c_4, c_6, c_9, c_11, c_14, c_15, c_16]; done) | (simp [kmT, c_1, c_4, c_6, c_9, c_11, c_14, c_15, c_16]; omega) | (simp [kmT, c_1, c_6, c_11]; done) | (simp [kmT, c_1, c_6, c_11]; omega) | omega)
                  exact rt_W hC hr hlk hw (by rw [if_pos hk_20] <;> (unfold mAtR; first | (rw [if_pos (by omega)]; done) | (rw [if_neg (by omega), if_pos (by omega)]; done) | (rw [if_neg (by omega), if_neg (by omega), if_pos (by omega)]; done) | (rw [if_neg (by omega), if_neg (by omega), if_neg (by omega)]; done))) (by rw [if_pos hk_20] <;> rfl) d_md_at_111
              · skip
                refine lv_aload_n hC.1 hC.2.1 d_md_at_77 rfl (lv_at hl 0 rfl) ?_
                refine lv_iload_n hC.1 hC.2.1 d_md_at_78 rfl (lv_at hl 1 rfl) ?_
                refine lv_iload_n hC.1 hC.2.1 d_md_at_79 rfl (lv_at hl 2 rfl) ?_
                refine go_R (ca_V (As := [.int (iI (k)), .int (iI (i))]) (rest := []) hC hw (c_md_enters l G (s_up S 25 0 0) k i hI_13 (by omega) (by omega) (by omega)) (cv_md_119 hC rfl rfl (Nat.le_of_ble_eq_true rfl) (Nat.le_of_ble_eq_true rfl)) (by decide) rfl rfl rfl hl.1 rfl (Nat.le_of_ble_eq_true rfl) d_md_at_80 ⟨Nat.le_of_ble_eq_true rfl, Nat.le_of_ble_eq_true rfl⟩) ?_
                have r_21 := mEn_b hI_13 k (show 1 ≤ (s_up S 25 0 0) 35 ((s_up S 25 0 0) 37 k.toNat).toNat by omega) i.toNat (by omega)
                refine lv_goto (tgt := 111) hC.1 hC.2.1 d_md_at_83 (by decide) ?_
                have hk_22 : kmT S k i w = 0 := (by first | (simp [kmT, c_1, c_4, c_6, c_9, c_11, c_14, c_15]; done) | (simp [kmT, c_1, c_4, c_6, c_9, c_11, c_14, c_15]; omega) | (simp [kmT, c_1, c_4, c_6, c_9, c_11, c_14, c_15]; done) | (simp [kmT, c_1, c_4, c_6, c_9, c_11, c_14, c_15]; omega) | (simp [kmT, c_1, c_6, c_11]; done) | (simp [kmT, c_1, c_6, c_11]; omega) | omega)
                exact rt_W hC hr hlk hw (by rw [if_pos hk_22] <;> (unfold mAtR; first | (rw [if_pos (by omega)]; done) | (rw [if_neg (by omega), if_pos (by omega)]; done) | (rw [if_neg (by omega), if_neg (by omega), if_pos (by omega)]; done) | (rw [if_neg (by omega), if_neg (by omega), if_neg (by omega)]; done))) (by rw [if_pos hk_22] <;> rfl) d_md_at_111
            · skip
              refine lv_aload_n hC.1 hC.2.1 d_md_at_58 rfl (lv_at hl 0 rfl) ?_
              refine gf_md_56 hC hw d_md_at_59 ?_
              refine lv_bipush (v := iI 8) hC.1 hC.2.1 d_md_at_62 (by decide +kernel) ?_
              refine lv_iload_n hC.1 hC.2.1 d_md_at_64 rfl (lv_at hl 1 rfl) ?_
              refine ir_mul hC.1 hC.2.1 d_md_at_65 ?_
              refine lv_iload_n hC.1 hC.2.1 d_md_at_66 rfl (lv_at hl 2 rfl) ?_
              refine ir_add hC.1 hC.2.1 d_md_at_67 ?_
              refine ld_41 hC hw (by omega) (by omega) d_md_at_68 ?_
              have b_23 := iv_41 hI_13 (((8 * k) + i).toNat)
              refine lv_goto (tgt := 111) hC.1 hC.2.1 d_md_at_69 (by decide) ?_
              have hk_24 : kmT S k i w = 0 := (by first | (simp [kmT, c_1, c_4, c_6, c_9, c_11, c_14]; done) | (simp [kmT, c_1, c_4, c_6, c_9, c_11, c_14]; omega) | (simp [kmT, c_1, c_4, c_6, c_9, c_11, c_14]; done) | (simp [kmT, c_1, c_4, c_6, c_9, c_11, c_14]; omega) | (simp [kmT, c_1, c_6, c_11]; done) | (simp [kmT, c_1, c_6, c_11]; omega) | omega)
              exact rt_W hC hr hlk hw (by rw [if_pos hk_24] <;> (unfold mAtR; first | (rw [if_pos (by omega)]; done) | (rw [if_neg (by omega), if_pos (by omega)]; done) | (rw [if_neg (by omega), if_neg (by omega), if_pos (by omega)]; done) | (rw [if_neg (by omega), if_neg (by omega), if_neg (by omega)]; done))) (by rw [if_pos hk_24] <;> rfl) d_md_at_111
          · skip
            refine lv_aload_n hC.1 hC.2.1 d_md_at_43 rfl (lv_at hl 0 rfl) ?_
            refine lv_iconst (v := iI 1) hC.1 hC.2.1 d_md_at_44 rfl ?_
            refine go_W (ca_V (As := [.int (iI (1))]) (rest := []) hC hw (c_md_fails l G S 1 (by omega)) (cv_md_90 hC rfl rfl (Nat.le_of_ble_eq_true rfl) (Nat.le_of_ble_eq_true rfl)) (by decide) rfl rfl rfl hl.1 rfl (Nat.le_of_ble_eq_true rfl) d_md_at_45 ⟨Nat.le_of_ble_eq_true rfl, Nat.le_of_ble_eq_true rfl⟩) hw (fun H locs hw => ?_)
            have hk_25 : kmT S k i w = 1 := (by first | (simp [kmT, c_1, c_4, c_6, c_9, c_11]; done) | (simp [kmT, c_1, c_4, c_6, c_9, c_11]; omega) | (simp [kmT, c_1, c_4, c_6, c_9, c_11]; done) | (simp [kmT, c_1, c_4, c_6, c_9, c_11]; omega) | (simp [kmT, c_1, c_6, c_11]; done) | (simp [kmT, c_1, c_6, c_11]; omega) | omega)
            exact rt_W hC hr hlk hw (by rw [if_neg (by omega)]) (by rw [if_neg (by omega), hk_25]) d_md_at_48
set_option maxHeartbeats 4000000 in
set_option maxRecDepth 100000 in
theorem c_md_count (l : Launch) (G : Gt) (S : St) (k : Int) (hI : Inv S) (hk : i32 k) (hso : ∀ j : Nat, 0 < S 40 j → 1 ≤ S 35 (S 37 j).toNat) : Met l y_md_count [.code y_md_count b_md_count 4 (some .int)] { frames := 6, cells := 0, slots := 0, locals := 151 } (va_Pc [.ref (G.2.1 25), .int (iI (k))] (fun U => wu G S U)) (qW G (s_up S 25 0 0) (mCn (s_up S 25 0 0) k)) 0 0 (gA G) := by
  refine mt_of (by decide +kernel) (Nat.le_of_ble_eq_true rfl) ?_
  intro p e s m below meth c ls hadm hC hr hlk hex hw hl
  have hC : CallFix p m c b_md_count 4 s _ tws "ChannelRulesModel" := hC
  have hl : lv_has ls 4 [(0, .ref (G.2.1 25)), (1, .int (iI (k)))] := hl
  have i3 := iv_25k hI
  refine lv_aload_n hC.1 hC.2.1 d_md_count_0 rfl (lv_at hl 0 rfl) ?_
  refine lv_iconst (v := iI 0) hC.1 hC.2.1 d_md_count_1 rfl ?_
  refine pf_md_65 (x := 0) hC hw d_md_count_2 (fun H locs hw => ?_)
  have hI_1 := Inv.up (q := 25) (i := 0) (x := 0) hI (by omega) (show _ ≤ 2 from by omega)
  have zk : (s_up S 25 0 0) 25 16 = S 25 16 := by simp [s_up_at]
  have zn : (s_up S 25 0 0) 25 15 = S 25 15 := by simp [s_up_at]
  have zp : (s_up S 25 0 0) 25 1 = S 25 1 := by simp [s_up_at]
  refine lv_iload_n hC.1 hC.2.1 d_md_count_5 rfl (lv_at hl 1 rfl) ?_
  refine lv_bipush (v := iI 20) hC.1 hC.2.1 d_md_count_6 (by decide +kernel) ?_
  refine ir_lt (tgt := 44) hC.1 hC.2.1 d_md_count_8 (by decide) ⟨by omega, by omega⟩ (by decide) (fun c_2 => ?_) (fun c_2 => ?_)
  · skip
    refine lv_iconst (v := iI 0) hC.1 hC.2.1 d_md_count_44 rfl ?_
    refine lv_istore_n (lv' := [(2, .int (iI (0))), (0, .ref (G.2.1 25)), (1, .int (iI (k)))]) hC.1 hC.2.1 d_md_count_45 rfl hl (by decide) rfl (fun ls hl => ?_)
    refine lv_iconst (v := iI 1) hC.1 hC.2.1 d_md_count_46 rfl ?_
    refine lv_istore_n (lv' := [(3, .int (iI (1))), (2, .int (iI (0))), (0, .ref (G.2.1 25)), (1, .int (iI (k)))]) hC.1 hC.2.1 d_md_count_47 rfl hl (by decide) rfl (fun ls hl => ?_)
    have loop_48 : ∀ (nn : Nat) (n : Nat) (x2 : Int) (x3 : Int), (S 25 16).toNat - n < nn → x2 = mGs (s_up S 25 0 0) n → x3 = (n : Int) + 1 → (n : Int) ≤ S 25 16 → ∀ (H : Heap) (locs : List Loc) (ls : Array Slot), wh G (s_up S 25 0 0) s H locs → lv_has ls 4 [(3, .int (iI (x3))), (2, .int (iI (x2))), (0, .ref (G.2.1 25)), (1, .int (iI (k)))] → W p l e { frames := 6, cells := 0, slots := 0, locals := 151 } s m ([.ref (G.2.1 25), .int (iI (k))] : List Value).toArray below meth c H locs 0 0 (MQ below (qW G (s_up S 25 0 0) (mCn (s_up S 25 0 0) k)) ([.ref (G.2.1 25), .int (iI (k))] : List Value).toArray s 0 0 (gA G)) (F0 m 48 ls []) := by
      intro nn
      induction nn with
      | zero => intros; omega
      | succ nn ih_48 =>
        intro n x2 x3 hms_48 hx2 hx3 hv0 H locs ls hw hl
        have zk : s_up S 25 0 0 25 16 = S 25 16 := by simp [s_up_at]
        have gb := mGs_b (s_up S 25 0 0) n
        refine lv_iload_n hC.1 hC.2.1 d_md_count_48 rfl (lv_at hl 0 rfl) ?_
        refine lv_aload_n hC.1 hC.2.1 d_md_count_49 rfl (lv_at hl 2 rfl) ?_
        refine gf_md_75 hC hw d_md_count_50 ?_
        have b_3 := iv_25k hI_1
        refine ir_gt (tgt := 79) hC.1 hC.2.1 d_md_count_53 (by decide) ⟨by omega, by omega⟩ ⟨by omega, by omega⟩ (fun c_4 => ?_) (fun c_4 => ?_)
        · skip
          refine lv_iload_n hC.1 hC.2.1 d_md_count_79 rfl (lv_at hl 3 rfl) ?_
          by_cases e_5 : k = 0
          · refine ir_tin (tgt := 124) hC d_md_count_80 ⟨by omega, by omega⟩ 0 (by omega) (by omega) rfl (by decide) ?_
            refine lv_aload_n hC.1 hC.2.1 d_md_count_124 rfl (lv_at hl 2 rfl) ?_
            refine gf_md_69 hC hw d_md_count_125 ?_
            have b_6 := iv_25p hI_1
            exact rt_W hC hr hlk hw (by unfold mCn; first | (rw [if_pos (by omega), if_pos (by assumption), if_pos (by omega)]; done) | (rw [if_pos (by omega), if_pos (by assumption), if_neg (by omega)]; done) | (rw [if_pos (by omega), if_neg (by simp_all)]; done) | (rw [if_neg (by omega)]; first | (rw [if_pos (by omega)]; done) | (rw [if_neg (by omega), if_pos (by omega)]; done) | (rw [if_neg (by omega), if_neg (by omega), if_pos (by omega)]; done) | (rw [if_neg (by omega), if_neg (by omega), if_neg (by omega), if_pos (by omega), hx2, show (s_up S 25 0 0 25 16).toNat = n by omega]; done) | (rw [if_neg (by omega), if_neg (by omega), if_neg (by omega), if_neg (by omega), if_pos (by omega)]; done) | (rw [if_neg (by omega), if_neg (by omega), if_neg (by omega), if_neg (by omega), if_neg (by omega), if_pos (by omega)]; done) | (rw [if_neg (by omega), if_neg (by omega), if_neg (by omega), if_neg (by omega), if_neg (by omega), if_neg (by omega), if_pos (by omega)]; first | (rw [if_pos (by omega)]; done) | (rw [if_neg (by omega)]; done)) | (rw [if_neg (by omega), if_neg (by omega), if_neg (by omega), if_neg (by omega), if_neg (by omega), if_neg (by omega), if_neg (by omega)]; done))) rfl d_md_count_128
          · skip
            by_cases e_7 : k = 1
            · refine ir_tin (tgt := 129) hC d_md_count_80 ⟨by omega, by omega⟩ 1 (by omega) (by omega) rfl (by decide) ?_
              refine lv_aload_n hC.1 hC.2.1 d_md_count_129 rfl (lv_at hl 2 rfl) ?_
              refine gf_md_72 hC hw d_md_count_130 ?_
              have b_8 := iv_25s hI_1
              exact rt_W hC hr hlk hw (by unfold mCn; first | (rw [if_pos (by omega), if_pos (by assumption), if_pos (by omega)]; done) | (rw [if_pos (by omega), if_pos (by assumption), if_neg (by omega)]; done) | (rw [if_pos (by omega), if_neg (by simp_all)]; done) | (rw [if_neg (by omega)]; first | (rw [if_pos (by omega)]; done) | (rw [if_neg (by omega), if_pos (by omega)]; done) | (rw [if_neg (by omega), if_neg (by omega), if_pos (by omega)]; done) | (rw [if_neg (by omega), if_neg (by omega), if_neg (by omega), if_pos (by omega), hx2, show (s_up S 25 0 0 25 16).toNat = n by omega]; done) | (rw [if_neg (by omega), if_neg (by omega), if_neg (by omega), if_neg (by omega), if_pos (by omega)]; done) | (rw [if_neg (by omega), if_neg (by omega), if_neg (by omega), if_neg (by omega), if_neg (by omega), if_pos (by omega)]; done) | (rw [if_neg (by omega), if_neg (by omega), if_neg (by omega), if_neg (by omega), if_neg (by omega), if_neg (by omega), if_pos (by omega)]; first | (rw [if_pos (by omega)]; done) | (rw [if_neg (by omega)]; done)) | (rw [if_neg (by omega), if_neg (by omega), if_neg (by omega), if_neg (by omega), if_neg (by omega), if_neg (by omega), if_neg (by omega)]; done))) rfl d_md_count_133
            · skip
              by_cases e_9 : k = 2
              · refine ir_tin (tgt := 134) hC d_md_count_80 ⟨by omega, by omega⟩ 2 (by omega) (by omega) rfl (by decide) ?_
                refine lv_aload_n hC.1 hC.2.1 d_md_count_134 rfl (lv_at hl 2 rfl) ?_
                refine gf_md_75 hC hw d_md_count_135 ?_
                have b_10 := iv_25k hI_1
                exact rt_W hC hr hlk hw (by unfold mCn; first | (rw [if_pos (by omega), if_pos (by assumption), if_pos (by omega)]; done) | (rw [if_pos (by omega), if_pos (by assumption), if_neg (by omega)]; done) | (rw [if_pos (by omega), if_neg (by simp_all)]; done) | (rw [if_neg (by omega)]; first | (rw [if_pos (by omega)]; done) | (rw [if_neg (by omega), if_pos (by omega)]; done) | (rw [if_neg (by omega), if_neg (by omega), if_pos (by omega)]; done) | (rw [if_neg (by omega), if_neg (by omega), if_neg (by omega), if_pos (by omega), hx2, show (s_up S 25 0 0 25 16).toNat = n by omega]; done) | (rw [if_neg (by omega), if_neg (by omega), if_neg (by omega), if_neg (by omega), if_pos (by omega)]; done) | (rw [if_neg (by omega), if_neg (by omega), if_neg (by omega), if_neg (by omega), if_neg (by omega), if_pos (by omega)]; done) | (rw [if_neg (by omega), if_neg (by omega), if_neg (by omega), if_neg (by omega), if_neg (by omega), if_neg (by omega), if_pos (by omega)]; first | (rw [if_pos (by omega)]; done) | (rw [if_neg (by omega)]; done)) | (rw [if_neg (by omega), if_neg (by omega), if_neg (by omega), if_neg (by omega), if_neg (by omega), if_neg (by omega), if_neg (by omega)]; done))) rfl d_md_count_138
              · skip
                by_cases e_11 : k = 3
                · refine ir_tin (tgt := 139) hC d_md_count_80 ⟨by omega, by omega⟩ 3 (by omega) (by omega) rfl (by decide) ?_
                  refine lv_iload_n hC.1 hC.2.1 d_md_count_139 rfl (lv_at hl 1 rfl) ?_
                  exact rt_W hC hr hlk hw (by unfold mCn; first | (rw [if_pos (by omega), if_pos (by assumption), if_pos (by omega)]; done) | (rw [if_pos (by omega), if_pos (by assumption), if_neg (by omega)]; done) | (rw [if_pos (by omega), if_neg (by simp_all)]; done) | (rw [if_neg (by omega)]; first | (rw [if_pos (by omega)]; done) | (rw [if_neg (by omega), if_pos (by omega)]; done) | (rw [if_neg (by omega), if_neg (by omega), if_pos (by omega)]; done) | (rw [if_neg (by omega), if_neg (by omega), if_neg (by omega), if_pos (by omega), hx2, show (s_up S 25 0 0 25 16).toNat = n by omega]; done) | (rw [if_neg (by omega), if_neg (by omega), if_neg (by omega), if_neg (by omega), if_pos (by omega)]; done) | (rw [if_neg (by omega), if_neg (by omega), if_neg (by omega), if_neg (by omega), if_neg (by omega), if_pos (by omega)]; done) | (rw [if_neg (by omega), if_neg (by omega), if_neg (by omega), if_neg (by omega), if_neg (by omega), if_neg (by omega), if_pos (by omega)]; first | (rw [if_pos (by omega)]; done) | (rw [if_neg (by omega)]; done)) | (rw [if_neg (by omega), if_neg (by omega), if_neg (by omega), if_neg (by omega), if_neg (by omega), if_neg (by omega), if_neg (by omega)]; done))) rfl d_md_count_140
                · skip
                  by_cases e_12 : k = 4
                  · refine ir_tin (tgt := 141) hC d_md_count_80 ⟨by omega, by omega⟩ 4 (by omega) (by omega) rfl (by decide) ?_
                    refine lv_aload_n hC.1 hC.2.1 d_md_count_141 rfl (lv_at hl 2 rfl) ?_
                    refine gf_md_78 hC hw d_md_count_142 ?_
                    have b_13 := iv_25 hI_1 15
                    exact rt_W hC hr hlk hw (by unfold mCn; first | (rw [if_pos (by omega), if_pos (by assumption), if_pos (by omega)]; done) | (rw [if_pos (by omega), if_pos (by assumption), if_neg (by omega)]; done) | (rw [if_pos (by omega), if_neg (by simp_all)]; done) | (rw [if_neg (by omega)]; first | (rw [if_pos (by omega)]; done) | (rw [if_neg (by omega), if_pos (by omega)]; done) | (rw [if_neg (by omega), if_neg (by omega), if_pos (by omega)]; done) | (rw [if_neg (by omega), if_neg (by omega), if_neg (by omega), if_pos (by omega), hx2, show (s_up S 25 0 0 25 16).toNat = n by omega]; done) | (rw [if_neg (by omega), if_neg (by omega), if_neg (by omega), if_neg (by omega), if_pos (by omega)]; done) | (rw [if_neg (by omega), if_neg (by omega), if_neg (by omega), if_neg (by omega), if_neg (by omega), if_pos (by omega)]; done) | (rw [if_neg (by omega), if_neg (by omega), if_neg (by omega), if_neg (by omega), if_neg (by omega), if_neg (by omega), if_pos (by omega)]; first | (rw [if_pos (by omega)]; done) | (rw [if_neg (by omega)]; done)) | (rw [if_neg (by omega), if_neg (by omega), if_neg (by omega), if_neg (by omega), if_neg (by omega), if_neg (by omega), if_neg (by omega)]; done))) rfl d_md_count_145
                  · skip
                    by_cases e_14 : k = 5
                    · refine ir_tin (tgt := 146) hC d_md_count_80 ⟨by omega, by omega⟩ 5 (by omega) (by omega) rfl (by decide) ?_
                      have hso1 : ∀ j : Nat, 0 < (s_up S 25 0 0) 40 j → 1 ≤ (s_up S 25 0 0) 35 ((s_up S 25 0 0) 37 j).toNat := by simpa [s_up_cell] using hso
                      refine lv_aload_n hC.1 hC.2.1 d_md_count_146 rfl (lv_at hl 2 rfl) ?_
                      refine ir_ldc hC 1000000 tw_679 (by decide +kernel) d_md_count_147 ?_
                      refine lv_iconst (v := iI (-1)) hC.1 hC.2.1 d_md_count_149 rfl ?_
                      refine go_R (ca_V (As := [.int (iI (1000000)), .int (iI ((-1)))]) (rest := []) hC hw (c_md_conflicts l G (s_up S 25 0 0) 1000000 (-1) hI_1 (by omega) (by omega) (by assumption)) (cv_md_153 hC rfl rfl (Nat.le_of_ble_eq_true rfl) (Nat.le_of_ble_eq_true rfl)) (by decide) rfl rfl rfl hl.1 rfl (Nat.le_of_ble_eq_true rfl) d_md_count_150 ⟨Nat.le_of_ble_eq_true rfl, Nat.le_of_ble_eq_true rfl⟩) ?_
                      have r_15 := mCf_b hI_1 (-1) (show 0 ≤ 1000000 ∧ 1000000 ≤ 2147483647 by omega)
                      exact rt_W hC hr hlk hw (by unfold mCn; first | (rw [if_pos (by omega), if_pos (by assumption), if_pos (by omega)]; done) | (rw [if_pos (by omega), if_pos (by assumption), if_neg (by omega)]; done) | (rw [if_pos (by omega), if_neg (by simp_all)]; done) | (rw [if_neg (by omega)]; first | (rw [if_pos (by omega)]; done) | (rw [if_neg (by omega), if_pos (by omega)]; done) | (rw [if_neg (by omega), if_neg (by omega), if_pos (by omega)]; done) | (rw [if_neg (by omega), if_neg (by omega), if_neg (by omega), if_pos (by omega), hx2, show (s_up S 25 0 0 25 16).toNat = n by omega]; done) | (rw [if_neg (by omega), if_neg (by omega), if_neg (by omega), if_neg (by omega), if_pos (by omega)]; done) | (rw [if_neg (by omega), if_neg (by omega), if_neg (by omega), if_neg (by omega), if_neg (by omega), if_pos (by omega)]; done) | (rw [if_neg (by omega), if_neg (by omega), if_neg (by omega), if_neg (by omega), if_neg (by omega), if_neg (by omega), if_pos (by omega)]; first | (rw [if_pos (by omega)]; done) | (rw [if_neg (by omega)]; done)) | (rw [if_neg (by omega), if_neg (by omega), if_neg (by omega), if_neg (by omega), if_neg (by omega), if_neg (by omega), if_neg (by omega)]; done))) rfl d_md_count_153
                    · skip
                      by_cases e_16 : k = 6
                      · refine ir_tin (tgt := 154) hC d_md_count_80 ⟨by omega, by omega⟩ 6 (by omega) (by omega) rfl (by decide) ?_
                        refine lv_aload_n hC.1 hC.2.1 d_md_count_154 rfl (lv_at hl 2 rfl) ?_
                        refine gf_md_97 hC hw d_md_count_155 ?_
                        have b_17 := iv_25w hI_1
                        refine ir_if_eq (tgt := 165) hC.1 hC.2.1 d_md_count_158 (by decide) ⟨by omega, by omega⟩ (fun c_18 => ?_) (fun c_18 => ?_)
                        · skip
                          refine lv_iconst (v := iI 0) hC.1 hC.2.1 d_md_count_165 rfl ?_
                          exact rt_W hC hr hlk hw (by unfold mCn; first | (rw [if_pos (by omega), if_pos (by assumption), if_pos (by omega)]; done) | (rw [if_pos (by omega), if_pos (by assumption), if_neg (by omega)]; done) | (rw [if_pos (by omega), if_neg (by simp_all)]; done) | (rw [if_neg (by omega)]; first | (rw [if_pos (by omega)]; done) | (rw [if_neg (by omega), if_pos (by omega)]; done) | (rw [if_neg (by omega), if_neg (by omega), if_pos (by omega)]; done) | (rw [if_neg (by omega), if_neg (by omega), if_neg (by omega), if_pos (by omega), hx2, show (s_up S 25 0 0 25 16).toNat = n by omega]; done) | (rw [if_neg (by omega), if_neg (by omega), if_neg (by omega), if_neg (by omega), if_pos (by omega)]; done) | (rw [if_neg (by omega), if_neg (by omega), if_neg (by omega), if_neg (by omega), if_neg (by omega), if_pos (by omega)]; done) | (rw [if_neg (by omega), if_neg (by omega), if_neg (by omega), if_neg (by omega), if_neg (by omega), if_neg (by omega), if_pos (by omega)]; first | (rw [if_pos (by omega)]; done) | (rw [if_neg (by omega)]; done)) | (rw [if_neg (by omega), if_neg (by omega), if_neg (by omega), if_neg (by omega), if_neg (by omega), if_neg (by omega), if_neg (by omega)]; done))) rfl d_md_count_166
                        · skip
                          refine lv_iconst (v := iI 1) hC.1 hC.2.1 d_md_count_161 rfl ?_
                          refine lv_goto (tgt := 166) hC.1 hC.2.1 d_md_count_162 (by decide) ?_
                          exact rt_W hC hr hlk hw (by unfold mCn; first | (rw [if_pos (by omega), if_pos (by assumption), if_pos (by omega)]; done) | (rw [if_pos (by omega), if_pos (by assumption), if_neg (by omega)]; done) | (rw [if_pos (by omega), if_neg (by simp_all)]; done) | (rw [if_neg (by omega)]; first | (rw [if_pos (by omega)]; done) | (rw [if_neg (by omega), if_pos (by omega)]; done) | (rw [if_neg (by omega), if_neg (by omega), if_pos (by omega)]; done) | (rw [if_neg (by omega), if_neg (by omega), if_neg (by omega), if_pos (by omega), hx2, show (s_up S 25 0 0 25 16).toNat = n by omega]; done) | (rw [if_neg (by omega), if_neg (by omega), if_neg (by omega), if_neg (by omega), if_pos (by omega)]; done) | (rw [if_neg (by omega), if_neg (by omega), if_neg (by omega), if_neg (by omega), if_neg (by omega), if_pos (by omega)]; done) | (rw [if_neg (by omega), if_neg (by omega), if_neg (by omega), if_neg (by omega), if_neg (by omega), if_neg (by omega), if_pos (by omega)]; first | (rw [if_pos (by omega)]; done) | (rw [if_neg (by omega)]; done)) | (rw [if_neg (by omega), if_neg (by omega), if_neg (by omega), if_neg (by omega), if_neg (by omega), if_neg (by omega), if_neg (by omega)]; done))) rfl d_md_count_166
                      · skip
                        refine ir_tout (tgt := 167) hC d_md_count_80 ⟨by omega, by omega⟩ (by omega) (by decide) ?_
                        refine lv_iconst (v := iI (-1)) hC.1 hC.2.1 d_md_count_167 rfl ?_
                        exact rt_W hC hr hlk hw (by unfold mCn; first | (rw [if_pos (by omega), if_pos (by assumption), if_pos (by omega)]; done) | (rw [if_pos (by omega), if_pos (by assumption), if_neg (by omega)]; done) | (rw [if_pos (by omega), if_neg (by simp_all)]; done) | (rw [if_neg (by omega)]; first | (rw [if_pos (by omega)]; done) | (rw [if_neg (by omega), if_pos (by omega)]; done) | (rw [if_neg (by omega), if_neg (by omega), if_pos (by omega)]; done) | (rw [if_neg (by omega), if_neg (by omega), if_neg (by omega), if_pos (by omega), hx2, show (s_up S 25 0 0 25 16).toNat = n by omega]; done) | (rw [if_neg (by omega), if_neg (by omega), if_neg (by omega), if_neg (by omega), if_pos (by omega)]; done) | (rw [if_neg (by omega), if_neg (by omega), if_neg (by omega), if_neg (by omega), if_neg (by omega), if_pos (by omega)]; done) | (rw [if_neg (by omega), if_neg (by omega), if_neg (by omega), if_neg (by omega), if_neg (by omega), if_neg (by omega), if_pos (by omega)]; first | (rw [if_pos (by omega)]; done) | (rw [if_neg (by omega)]; done)) | (rw [if_neg (by omega), if_neg (by omega), if_neg (by omega), if_neg (by omega), if_neg (by omega), if_neg (by omega), if_neg (by omega)]; done))) rfl d_md_count_168
        · skip
          refine lv_iload_n hC.1 hC.2.1 d_md_count_56 rfl (lv_at hl 1 rfl) ?_
          refine lv_aload_n hC.1 hC.2.1 d_md_count_57 rfl (lv_at hl 2 rfl) ?_
          refine gf_md_49 hC hw d_md_count_58 ?_
          refine lv_iload_n hC.1 hC.2.1 d_md_count_61 rfl (lv_at hl 0 rfl) ?_
          refine ld_39 hC hw (by omega) (by omega) d_md_count_62 ?_
          have b_19 := iv_39 hI_1 x3.toNat
          refine ir_if_eq (tgt := 70) hC.1 hC.2.1 d_md_count_63 (by decide) ⟨by omega, by omega⟩ (fun c_20 => ?_) (fun c_20 => ?_)
          · skip
            refine lv_iconst (v := iI 0) hC.1 hC.2.1 d_md_count_70 rfl ?_
            refine ir_add hC.1 hC.2.1 d_md_count_71 ?_
            refine lv_istore_n (lv' := [(2, .int (iI (x2 + 0))), (3, .int (iI (x3))), (0, .ref (G.2.1 25)), (1, .int (iI (k)))]) hC.1 hC.2.1 d_md_count_72 rfl hl (by decide) rfl (fun ls hl => ?_)
            refine lv_iinc (v := iI (x3 + 1)) (lv' := [(3, .int (iI (x3 + 1))), (2, .int (iI (x2 + 0))), (0, .ref (G.2.1 25)), (1, .int (iI (k)))]) hC.1 hC.2.1 d_md_count_73 hl (k := 1) rfl (iI_add _ _) (by decide) rfl (fun ls hl => ?_)
            refine lv_goto (tgt := 48) hC.1 hC.2.1 d_md_count_76 (by decide) ?_
            exact ih_48 (n + 1) _ _ (by omega) (by have g := mGs_s (s_up S 25 0 0) n; rw [← hx3] at g; rw [g]; first | (rw [if_pos (by omega)]; omega) | (rw [if_neg (by omega)]; omega)) (by first | rfl | omega) (by omega) _ _ _ hw (lv_sub hl [0, 1, 2, 3] rfl)
          · skip
            refine lv_iconst (v := iI 1) hC.1 hC.2.1 d_md_count_66 rfl ?_
            refine lv_goto (tgt := 71) hC.1 hC.2.1 d_md_count_67 (by decide) ?_
            refine ir_add hC.1 hC.2.1 d_md_count_71 ?_
            refine lv_istore_n (lv' := [(2, .int (iI (x2 + 1))), (3, .int (iI (x3))), (0, .ref (G.2.1 25)), (1, .int (iI (k)))]) hC.1 hC.2.1 d_md_count_72 rfl hl (by decide) rfl (fun ls hl => ?_)
            refine lv_iinc (v := iI (x3 + 1)) (lv' := [(3, .int (iI (x3 + 1))), (2, .int (iI (x2 + 1))), (0, .ref (G.2.1 25)), (1, .int (iI (k)))]) hC.1 hC.2.1 d_md_count_73 hl (k := 1) rfl (iI_add _ _) (by decide) rfl (fun ls hl => ?_)
            refine lv_goto (tgt := 48) hC.1 hC.2.1 d_md_count_76 (by decide) ?_
            exact ih_48 (n + 1) _ _ (by omega) (by have g := mGs_s (s_up S 25 0 0) n; rw [← hx3] at g; rw [g]; first | (rw [if_pos (by omega)]; omega) | (rw [if_neg (by omega)]; omega)) (by first | rfl | omega) (by omega) _ _ _ hw (lv_sub hl [0, 1, 2, 3] rfl)
    exact loop_48 _ 0 _ _ (Nat.lt_succ_self _) (by first | rfl | omega) (by first | rfl | omega) (by omega) _ _ _ hw (lv_sub hl [0, 1, 2, 3] rfl)
  · skip
    refine lv_aload_n hC.1 hC.2.1 d_md_count_11 rfl (lv_at hl 0 rfl) ?_
    refine lv_iload_n hC.1 hC.2.1 d_md_count_12 rfl (lv_at hl 1 rfl) ?_
    refine lv_bipush (v := iI 20) hC.1 hC.2.1 d_md_count_13 (by decide +kernel) ?_
    refine ir_sub hC.1 hC.2.1 d_md_count_15 ?_
    refine go_R (ca_V (As := [.int (iI (k - 20))]) (rest := []) hC hw (c_md_isSlot l G (s_up S 25 0 0) (k - 20) hI_1 (by omega)) (cv_md_150 hC rfl rfl (Nat.le_of_ble_eq_true rfl) (Nat.le_of_ble_eq_true rfl)) (by decide) rfl rfl rfl hl.1 rfl (Nat.le_of_ble_eq_true rfl) d_md_count_16 ⟨Nat.le_of_ble_eq_true rfl, Nat.le_of_ble_eq_true rfl⟩) ?_
    refine ir_beq (tgt := 42) hC d_md_count_19 (by decide) (fun c_21 => ?_) (fun c_21 => ?_)
    · skip
      refine lv_iconst (v := iI (-1)) hC.1 hC.2.1 d_md_count_42 rfl ?_
      exact rt_W hC hr hlk hw (by unfold mCn; first | (rw [if_pos (by omega), if_pos (by assumption), if_pos (by omega)]; done) | (rw [if_pos (by omega), if_pos (by assumption), if_neg (by omega)]; done) | (rw [if_pos (by omega), if_neg (by simp_all)]; done) | (rw [if_neg (by omega)]; first | (rw [if_pos (by omega)]; done) | (rw [if_neg (by omega), if_pos (by omega)]; done) | (rw [if_neg (by omega), if_neg (by omega), if_pos (by omega)]; done) | (rw [if_neg (by omega), if_neg (by omega), if_neg (by omega), if_pos (by omega), hx2, show (s_up S 25 0 0 25 16).toNat = n by omega]; done) | (rw [if_neg (by omega), if_neg (by omega), if_neg (by omega), if_neg (by omega), if_pos (by omega)]; done) | (rw [if_neg (by omega), if_neg (by omega), if_neg (by omega), if_neg (by omega), if_neg (by omega), if_pos (by omega)]; done) | (rw [if_neg (by omega), if_neg (by omega), if_neg (by omega), if_neg (by omega), if_neg (by omega), if_neg (by omega), if_pos (by omega)]; first | (rw [if_pos (by omega)]; done) | (rw [if_neg (by omega)]; done)) | (rw [if_neg (by omega), if_neg (by omega), if_neg (by omega), if_neg (by omega), if_neg (by omega), if_neg (by omega), if_neg (by omega)]; done))) rfl d_md_count_43
    · skip
      have w_22 := wn_t c_21
      refine lv_aload_n hC.1 hC.2.1 d_md_count_22 rfl (lv_at hl 0 rfl) ?_
      refine gf_md_49 hC hw d_md_count_23 ?_
      refine lv_iload_n hC.1 hC.2.1 d_md_count_26 rfl (lv_at hl 1 rfl) ?_
      refine lv_bipush (v := iI 20) hC.1 hC.2.1 d_md_count_27 (by decide +kernel) ?_
      refine ir_sub hC.1 hC.2.1 d_md_count_29 ?_
      refine ld_39 hC hw (by omega) (by omega) d_md_count_30 ?_
      have b_23 := iv_39 hI_1 ((k - 20).toNat)
      refine ir_if_eq (tgt := 38) hC.1 hC.2.1 d_md_count_31 (by decide) ⟨by omega, by omega⟩ (fun c_24 => ?_) (fun c_24 => ?_)
      · skip
        refine lv_iconst (v := iI 0) hC.1 hC.2.1 d_md_count_38 rfl ?_
        refine lv_goto (tgt := 43) hC.1 hC.2.1 d_md_count_39 (by decide) ?_
        exact rt_W hC hr hlk hw (by unfold mCn; first | (rw [if_pos (by omega), if_pos (by assumption), if_pos (by omega)]; done) | (rw [if_pos (by omega), if_pos (by assumption), if_neg (by omega)]; done) | (rw [if_pos (by omega), if_neg (by simp_all)]; done) | (rw [if_neg (by omega)]; first | (rw [if_pos (by omega)]; done) | (rw [if_neg (by omega), if_pos (by omega)]; done) | (rw [if_neg (by omega), if_neg (by omega), if_pos (by omega)]; done) | (rw [if_neg (by omega), if_neg (by omega), if_neg (by omega), if_pos (by omega), hx2, show (s_up S 25 0 0 25 16).toNat = n by omega]; done) | (rw [if_neg (by omega), if_neg (by omega), if_neg (by omega), if_neg (by omega), if_pos (by omega)]; done) | (rw [if_neg (by omega), if_neg (by omega), if_neg (by omega), if_neg (by omega), if_neg (by omega), if_pos (by omega)]; done) | (rw [if_neg (by omega), if_neg (by omega), if_neg (by omega), if_neg (by omega), if_neg (by omega), if_neg (by omega), if_pos (by omega)]; first | (rw [if_pos (by omega)]; done) | (rw [if_neg (by omega)]; done)) | (rw [if_neg (by omega), if_neg (by omega), if_neg (by omega), if_neg (by omega), if_neg (by omega), if_neg (by omega), if_neg (by omega)]; done))) rfl d_md_count_43
      · skip
        refine lv_iconst (v := iI 1) hC.1 hC.2.1 d_md_count_34 rfl ?_
        refine lv_goto (tgt := 43) hC.1 hC.2.1 d_md_count_35 (by decide) ?_
        exact rt_W hC hr hlk hw (by unfold mCn; first | (rw [if_pos (by omega), if_pos (by assumption), if_pos (by omega)]; done) | (rw [if_pos (by omega), if_pos (by assumption), if_neg (by omega)]; done) | (rw [if_pos (by omega), if_neg (by simp_all)]; done) | (rw [if_neg (by omega)]; first | (rw [if_pos (by omega)]; done) | (rw [if_neg (by omega), if_pos (by omega)]; done) | (rw [if_neg (by omega), if_neg (by omega), if_pos (by omega)]; done) | (rw [if_neg (by omega), if_neg (by omega), if_neg (by omega), if_pos (by omega), hx2, show (s_up S 25 0 0 25 16).toNat = n by omega]; done) | (rw [if_neg (by omega), if_neg (by omega), if_neg (by omega), if_neg (by omega), if_pos (by omega)]; done) | (rw [if_neg (by omega), if_neg (by omega), if_neg (by omega), if_neg (by omega), if_neg (by omega), if_pos (by omega)]; done) | (rw [if_neg (by omega), if_neg (by omega), if_neg (by omega), if_neg (by omega), if_neg (by omega), if_neg (by omega), if_pos (by omega)]; first | (rw [if_pos (by omega)]; done) | (rw [if_neg (by omega)]; done)) | (rw [if_neg (by omega), if_neg (by omega), if_neg (by omega), if_neg (by omega), if_neg (by omega), if_neg (by omega), if_neg (by omega)]; done))) rfl d_md_count_43

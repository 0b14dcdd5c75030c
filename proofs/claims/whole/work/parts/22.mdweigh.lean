/-! the reference, as functions of the state: what bars a stay -/
def mB1 (S : St) (k i : Int) : Bool := decide (0 < S 30 (5 * S 41 (8 * k + i).toNat).toNat) && !decide (S 30 (5 * S 41 (8 * k + i).toNat).toNat = if S 42 (8 * k + i).toNat = 1 then 1 else 2)
def mB2 (S : St) (k i : Int) : Bool := decide (0 < S 30 (5 * S 41 (8 * k + i).toNat + 1).toNat) && (decide (S 30 (5 * S 41 (8 * k + i).toNat + 1).toNat ≤ S 36 (S 37 k.toNat).toNat) && mNt (mEn S k i.toNat) (mLv S k i - mEn S k i.toNat).toNat)
def mB3 (S : St) (k i : Int) : Bool := !decide (S 25 14 = 0) && decide (S 30 (5 * S 41 (8 * k + i).toNat + 2).toNat < S 34 (S 37 k.toNat).toNat)
def mSp (S : St) (q a b : Int) : Nat → Nat → Bool
  | _, 0 => false
  | n, g + 1 => if S 32 (4 * q + (n : Int)).toNat < b ∧ a < S 33 (4 * q + (n : Int)).toNat then true else mSp S q a b (n + 1) g
theorem mSp_s (S : St) (q a b : Int) (n g : Nat) (h : n < g) : mSp S q a b n (g - n) = if S 32 (4 * q + (n : Int)).toNat < b ∧ a < S 33 (4 * q + (n : Int)).toNat then true else mSp S q a b (n + 1) (g - (n + 1)) := by
  have e : g - n = (g - (n + 1)) + 1 := by omega
  rw [e]
  rfl
def mBr (S : St) (k i : Int) : Int := if mB1 S k i = true then 1 else if mB2 S k i = true then 2 else if mB3 S k i = true then 3 else if mSp S (S 41 (8 * k + i).toNat) (mEn S k i.toNat) (mLv S k i) 0 (S 31 (S 41 (8 * k + i).toNat).toNat).toNat = true then 4 else 0
theorem mBr_b (S : St) (k i : Int) : 0 ≤ mBr S k i ∧ mBr S k i ≤ 4 := by
  unfold mBr
  repeat (first | omega | split)
def mBt (S : St) (k i r j : Int) : Int :=
  if ¬ S 41 (8 * r + j).toNat = S 41 (8 * k + i).toNat ∨ mLv S r j ≤ mEn S k i.toNat ∨ mLv S k i ≤ mEn S r j.toNat then 0
  else if S 36 (S 37 k.toNat).toNat = 2 ∨ S 36 (S 37 r.toNat).toNat = 2 then 5
  else if ¬ S 42 (8 * k + i).toNat = S 42 (8 * r + j).toNat then (if S 30 (5 * S 41 (8 * k + i).toNat + 3).toNat = 1 ∨ S 29 (S 41 (8 * k + i).toNat).toNat < S 34 (S 37 k.toNat).toNat + S 34 (S 37 r.toNat).toNat then 6 else 0)
  else (if ¬ ((mEn S k i.toNat < mEn S r j.toNat ∧ mLv S k i < mLv S r j) ∨ (mEn S r j.toNat < mEn S k i.toNat ∧ mLv S r j < mLv S k i)) ∧ (S 30 (5 * S 41 (8 * k + i).toNat + 4).toNat = 0 ∨ S 29 (S 41 (8 * k + i).toNat).toNat < S 34 (S 37 k.toNat).toNat + S 34 (S 37 r.toNat).toNat) then 7 else 0)
theorem mBt_b (S : St) (k i r j : Int) : 0 ≤ mBt S k i r j ∧ mBt S k i r j ≤ 7 := by
  unfold mBt
  repeat (first | omega | split)
def mWt (S : St) (k i r : Int) : Nat → Int
  | 0 => 0
  | n + 1 => if 0 < mWt S k i r n then mWt S k i r n else mBt S k i r (n : Int)
theorem mWt_s (S : St) (k i r : Int) (n : Nat) : mWt S k i r (n + 1) = if 0 < mWt S k i r n then mWt S k i r n else mBt S k i r (n : Int) := rfl
theorem mWt_b (S : St) (k i r : Int) (n : Nat) : 0 ≤ mWt S k i r n ∧ mWt S k i r n ≤ 7 := by
  induction n with
  | zero => simp [mWt]
  | succ n ih =>
    have := mBt_b S k i r (n : Int)
    rw [mWt_s]
    split <;> omega
def mGv (S : St) (k i w r : Int) : Int := if ¬ S 39 r.toNat = 0 ∧ ¬ r = w then mWt S k i r (S 40 r.toNat).toNat else 0
def mUp (L v : Int) : Int := if 0 < v ∧ (L = 0 ∨ v < L) then v else L
theorem mGv_b (S : St) (k i w r : Int) : 0 ≤ mGv S k i w r ∧ mGv S k i w r ≤ 7 := by
  have := mWt_b S k i r (S 40 r.toNat).toNat
  unfold mGv
  split <;> omega
def mIn (S : St) (k i w : Int) : Nat → Nat → Int → Int
  | _, 0, L => L
  | g, n + 1, L => if L = 0 ∨ 5 < L then mIn S k i w (g + 1) n (mUp L (mGv S k i w (g : Int))) else L
theorem mIn_s (S : St) (k i w : Int) (g n : Nat) (L : Int) (h : g < n) : mIn S k i w (g + 1) (n - g) L = if L = 0 ∨ 5 < L then mIn S k i w (g + 1 + 1) (n - (g + 1)) (mUp L (mGv S k i w ((g : Int) + 1))) else L := by
  have e : n - g = (n - (g + 1)) + 1 := by omega
  rw [e]
  rfl
theorem mIn_e (S : St) (k i w : Int) (g n : Nat) (L : Int) (h : ¬ (L = 0 ∨ 5 < L)) : mIn S k i w g n L = L := by
  cases n with
  | zero => rfl
  | succ n => unfold mIn; rw [if_neg h]
theorem mIn_b (S : St) (k i w : Int) (g n : Nat) (L : Int) (h : 0 ≤ L ∧ L ≤ 7) : 0 ≤ mIn S k i w g n L ∧ mIn S k i w g n L ≤ 7 := by
  induction n generalizing g L with
  | zero => exact h
  | succ n ih =>
    unfold mIn
    split
    · have h1 := mGv_b S k i w (g : Int)
      refine ih (g + 1) _ ?_
      unfold mUp
      split <;> omega
    · exact h
def mAi (S : St) (k i w : Int) : Int := mIn S k i w 1 (S 25 16).toNat (mBr S k i)
theorem mAi_b (S : St) (k i w : Int) : 0 ≤ mAi S k i w ∧ mAi S k i w ≤ 7 := by
  have := mBr_b S k i
  exact mIn_b _ _ _ _ _ _ _ (by omega)
def mAg (S : St) (k w : Int) : Nat → Nat → Int
  | _, 0 => 0
  | i, n + 1 => if 0 < mAi S k (i : Int) w then mAi S k (i : Int) w else mAg S k w (i + 1) n
theorem mAg_s (S : St) (k w : Int) (i n : Nat) (h : i < n) : mAg S k w i (n - i) = if 0 < mAi S k (i : Int) w then mAi S k (i : Int) w else mAg S k w (i + 1) (n - (i + 1)) := by
  have e : n - i = (n - (i + 1)) + 1 := by omega
  rw [e]
  rfl
theorem mAg_b (S : St) (k w : Int) (i n : Nat) : 0 ≤ mAg S k w i n ∧ mAg S k w i n ≤ 7 := by
  induction n generalizing i with
  | zero => simp [mAg]
  | succ n ih =>
    have := mAi_b S k (i : Int) w
    unfold mAg
    split
    · omega
    · exact ih (i + 1)
set_option maxHeartbeats 4000000 in
set_option maxRecDepth 100000 in
theorem c_md_barred (l : Launch) (G : Gt) (S : St) (k : Int) (i : Int) (hI : Inv S) (hk : 0 ≤ k ∧ k ≤ 30) (hi : 0 ≤ i ∧ i < 7) (hs : 1 ≤ S 35 (S 37 k.toNat).toNat) : Met l y_md_barred [.code y_md_barred b_md_barred 9 (some .int)] { frames := 3, cells := 0, slots := 0, locals := 68 } (va_Pc [.ref (G.2.1 25), .int (iI (k)), .int (iI (i))] (fun U => wu G S U)) (qR (mBr S k i)) 0 0 (fun _ => False) := by
  refine mt_of (by decide +kernel) (Nat.le_of_ble_eq_true rfl) ?_
  intro p e s m below meth c ls hadm hC hr hlk hex hw hl
  have hC : CallFix p m c b_md_barred 9 s _ tws "ChannelRulesModel" := hC
  have hl : lv_has ls 9 [(0, .ref (G.2.1 25)), (1, .int (iI (k))), (2, .int (iI (i)))] := hl
  refine lv_aload_n hC.1 hC.2.1 d_md_barred_0 rfl (lv_at hl 0 rfl) ?_
  refine gf_md_56 hC hw d_md_barred_1 ?_
  refine lv_bipush (v := iI 8) hC.1 hC.2.1 d_md_barred_4 (by decide +kernel) ?_
  refine lv_iload_n hC.1 hC.2.1 d_md_barred_6 rfl (lv_at hl 1 rfl) ?_
  refine ir_mul hC.1 hC.2.1 d_md_barred_7 ?_
  refine lv_iload_n hC.1 hC.2.1 d_md_barred_8 rfl (lv_at hl 2 rfl) ?_
  refine ir_add hC.1 hC.2.1 d_md_barred_9 ?_
  refine ld_41 hC hw (by omega) (by omega) d_md_barred_10 ?_
  have b_1 := iv_41 hI (((8 * k) + i).toNat)
  refine lv_istore_n (lv' := [(3, .int (iI (S 41 ((8 * k) + i).toNat))), (0, .ref (G.2.1 25)), (1, .int (iI (k))), (2, .int (iI (i)))]) hC.1 hC.2.1 d_md_barred_11 rfl hl (by decide) rfl (fun ls hl => ?_)
  refine lv_aload_n hC.1 hC.2.1 d_md_barred_12 rfl (lv_at hl 1 rfl) ?_
  refine gf_md_43 hC hw d_md_barred_13 ?_
  refine lv_iload_n hC.1 hC.2.1 d_md_barred_16 rfl (lv_at hl 2 rfl) ?_
  refine ld_37 hC hw (by omega) (by omega) d_md_barred_17 ?_
  have b_2 := iv_37 hI k.toNat
  refine lv_istore (lv' := [(4, .int (iI (S 37 k.toNat))), (3, .int (iI (S 41 ((8 * k) + i).toNat))), (0, .ref (G.2.1 25)), (1, .int (iI (k))), (2, .int (iI (i)))]) hC.1 hC.2.1 d_md_barred_18 hl (by decide) rfl (fun ls hl => ?_)
  refine lv_aload_n hC.1 hC.2.1 d_md_barred_20 rfl (lv_at hl 2 rfl) ?_
  refine lv_iload_n hC.1 hC.2.1 d_md_barred_21 rfl (lv_at hl 3 rfl) ?_
  refine lv_iload_n hC.1 hC.2.1 d_md_barred_22 rfl (lv_at hl 4 rfl) ?_
  refine go_R (ca_V (As := [.int (iI (k)), .int (iI (i))]) (rest := []) hC hw (c_md_enters l G S k i hI (by omega) (by omega) (by omega)) (cv_md_119 hC rfl rfl (Nat.le_of_ble_eq_true rfl) (Nat.le_of_ble_eq_true rfl)) (by decide) rfl rfl rfl hl.1 rfl (Nat.le_of_ble_eq_true rfl) d_md_barred_23 ⟨Nat.le_of_ble_eq_true rfl, Nat.le_of_ble_eq_true rfl⟩) ?_
  have r_3 := mEn_b hI k (show 1 ≤ S 35 (S 37 k.toNat).toNat by omega) i.toNat (by omega)
  refine lv_istore (lv' := [(5, .int (iI (mEn S k i.toNat))), (4, .int (iI (S 37 k.toNat))), (3, .int (iI (S 41 ((8 * k) + i).toNat))), (0, .ref (G.2.1 25)), (1, .int (iI (k))), (2, .int (iI (i)))]) hC.1 hC.2.1 d_md_barred_26 hl (by decide) rfl (fun ls hl => ?_)
  refine lv_aload_n hC.1 hC.2.1 d_md_barred_28 rfl (lv_at hl 3 rfl) ?_
  refine lv_iload_n hC.1 hC.2.1 d_md_barred_29 rfl (lv_at hl 4 rfl) ?_
  refine lv_iload_n hC.1 hC.2.1 d_md_barred_30 rfl (lv_at hl 5 rfl) ?_
  refine go_R (ca_V (As := [.int (iI (k)), .int (iI (i))]) (rest := []) hC hw (c_md_leaves l G S k i hI (by omega) (by omega) (by omega)) (cv_md_122 hC rfl rfl (Nat.le_of_ble_eq_true rfl) (Nat.le_of_ble_eq_true rfl)) (by decide) rfl rfl rfl hl.1 rfl (Nat.le_of_ble_eq_true rfl) d_md_barred_31 ⟨Nat.le_of_ble_eq_true rfl, Nat.le_of_ble_eq_true rfl⟩) ?_
  have r_4 := mLv_b hI k (show 1 ≤ S 35 (S 37 k.toNat).toNat by omega) i (by omega)
  refine lv_istore (lv' := [(6, .int (iI (mLv S k i))), (5, .int (iI (mEn S k i.toNat))), (4, .int (iI (S 37 k.toNat))), (3, .int (iI (S 41 ((8 * k) + i).toNat))), (0, .ref (G.2.1 25)), (1, .int (iI (k))), (2, .int (iI (i)))]) hC.1 hC.2.1 d_md_barred_34 hl (by decide) rfl (fun ls hl => ?_)
  refine lv_aload_n hC.1 hC.2.1 d_md_barred_36 rfl (lv_at hl 4 rfl) ?_
  refine gf_md_22 hC hw d_md_barred_37 ?_
  refine lv_iconst (v := iI 5) hC.1 hC.2.1 d_md_barred_40 rfl ?_
  refine lv_iload_n hC.1 hC.2.1 d_md_barred_41 rfl (lv_at hl 3 rfl) ?_
  refine ir_mul hC.1 hC.2.1 d_md_barred_42 ?_
  refine ld_30 hC hw (by omega) (by omega) d_md_barred_43 ?_
  have b_5 := iv_30 hI ((5 * (S 41 ((8 * k) + i).toNat)).toNat)
  refine lv_istore (lv' := [(7, .int (iI (S 30 (5 * (S 41 ((8 * k) + i).toNat)).toNat))), (6, .int (iI (mLv S k i))), (5, .int (iI (mEn S k i.toNat))), (4, .int (iI (S 37 k.toNat))), (3, .int (iI (S 41 ((8 * k) + i).toNat))), (0, .ref (G.2.1 25)), (1, .int (iI (k))), (2, .int (iI (i)))]) hC.1 hC.2.1 d_md_barred_44 hl (by decide) rfl (fun ls hl => ?_)
  have join_152 : ∀ (ls : Array Slot), (mB1 S k i = false) → (mB2 S k i = false) → (mB3 S k i = false) → lv_has ls 9 [(7, .int (iI (S 30 (5 * (S 41 ((8 * k) + i).toNat)).toNat))), (6, .int (iI (mLv S k i))), (5, .int (iI (mEn S k i.toNat))), (4, .int (iI (S 37 k.toNat))), (3, .int (iI (S 41 ((8 * k) + i).toNat))), (0, .ref (G.2.1 25)), (1, .int (iI (k))), (2, .int (iI (i)))] → W p l e { frames := 3, cells := 0, slots := 0, locals := 68 } s m ([.ref (G.2.1 25), .int (iI (k)), .int (iI (i))] : List Value).toArray below meth c s.heap [] 0 0 (MQ below (qR (mBr S k i)) ([.ref (G.2.1 25), .int (iI (k)), .int (iI (i))] : List Value).toArray s 0 0 (fun _ => False)) (F0 m 152 ls []) := by
    intro ls j152_0 j152_1 j152_2 hl
    refine lv_iconst (v := iI 4) hC.1 hC.2.1 d_md_barred_152 rfl ?_
    refine lv_iload_n hC.1 hC.2.1 d_md_barred_153 rfl (lv_at hl 4 rfl) ?_
    refine ir_mul hC.1 hC.2.1 d_md_barred_154 ?_
    refine lv_istore (lv' := [(8, .int (iI (4 * (S 41 ((8 * k) + i).toNat)))), (7, .int (iI (S 30 (5 * (S 41 ((8 * k) + i).toNat)).toNat))), (6, .int (iI (mLv S k i))), (5, .int (iI (mEn S k i.toNat))), (4, .int (iI (S 37 k.toNat))), (3, .int (iI (S 41 ((8 * k) + i).toNat))), (0, .ref (G.2.1 25)), (1, .int (iI (k))), (2, .int (iI (i)))]) hC.1 hC.2.1 d_md_barred_155 hl (by decide) rfl (fun ls hl => ?_)
    have loop_157 : ∀ (nn : Nat) (n : Nat) (x8 : Int), (S 31 (S 41 (8 * k + i).toNat).toNat).toNat - n < nn → x8 = 4 * S 41 (8 * k + i).toNat + (n : Int) → (n : Int) ≤ S 31 (S 41 (8 * k + i).toNat).toNat → mSp S (S 41 (8 * k + i).toNat) (mEn S k i.toNat) (mLv S k i) 0 (S 31 (S 41 (8 * k + i).toNat).toNat).toNat = mSp S (S 41 (8 * k + i).toNat) (mEn S k i.toNat) (mLv S k i) n ((S 31 (S 41 (8 * k + i).toNat).toNat).toNat - n) → ∀ (ls : Array Slot), lv_has ls 9 [(8, .int (iI (x8))), (7, .int (iI (S 30 (5 * (S 41 ((8 * k) + i).toNat)).toNat))), (6, .int (iI (mLv S k i))), (5, .int (iI (mEn S k i.toNat))), (4, .int (iI (S 37 k.toNat))), (3, .int (iI (S 41 ((8 * k) + i).toNat))), (0, .ref (G.2.1 25)), (1, .int (iI (k))), (2, .int (iI (i)))] → W p l e { frames := 3, cells := 0, slots := 0, locals := 68 } s m ([.ref (G.2.1 25), .int (iI (k)), .int (iI (i))] : List Value).toArray below meth c s.heap [] 0 0 (MQ below (qR (mBr S k i)) ([.ref (G.2.1 25), .int (iI (k)), .int (iI (i))] : List Value).toArray s 0 0 (fun _ => False)) (F0 m 157 ls []) := by
      intro nn
      induction nn with
      | zero => intros; omega
      | succ nn ih_157 =>
        intro n x8 hms_157 hx8 hv0 hv1 ls hl
        have i31 := iv_31 hI (S 41 (8 * k + i).toNat).toNat
        have i41 := iv_41 hI (8 * k + i).toNat
        refine lv_iload hC.1 hC.2.1 d_md_barred_157 (lv_at hl 0 rfl) ?_
        refine lv_iconst (v := iI 4) hC.1 hC.2.1 d_md_barred_159 rfl ?_
        refine lv_iload_n hC.1 hC.2.1 d_md_barred_160 rfl (lv_at hl 5 rfl) ?_
        refine ir_mul hC.1 hC.2.1 d_md_barred_161 ?_
        refine lv_aload_n hC.1 hC.2.1 d_md_barred_162 rfl (lv_at hl 6 rfl) ?_
        refine gf_md_25 hC hw d_md_barred_163 ?_
        refine lv_iload_n hC.1 hC.2.1 d_md_barred_166 rfl (lv_at hl 5 rfl) ?_
        refine ld_31 hC hw (by omega) (by omega) d_md_barred_167 ?_
        have b_6 := iv_31 hI ((S 41 ((8 * k) + i).toNat).toNat)
        refine ir_add hC.1 hC.2.1 d_md_barred_168 ?_
        refine ir_ge (tgt := 204) hC.1 hC.2.1 d_md_barred_169 (by decide) ⟨by omega, by omega⟩ ⟨by omega, by omega⟩ (fun c_7 => ?_) (fun c_7 => ?_)
        · skip
          refine lv_iconst (v := iI 0) hC.1 hC.2.1 d_md_barred_204 rfl ?_
          exact rt_R hC hr hlk (by unfold mBr; rw [if_neg (by rw [j152_0]; decide), if_neg (by rw [j152_1]; decide), if_neg (by rw [j152_2]; decide), if_neg (by rw [hv1, show (S 31 (S 41 (8 * k + i).toNat).toNat).toNat - n = 0 by omega]; intro z; cases z)]) d_md_barred_205
        · skip
          refine lv_aload_n hC.1 hC.2.1 d_md_barred_172 rfl (lv_at hl 6 rfl) ?_
          refine gf_md_28 hC hw d_md_barred_173 ?_
          refine lv_iload hC.1 hC.2.1 d_md_barred_176 (lv_at hl 0 rfl) ?_
          refine ld_32 hC hw (by omega) (by omega) d_md_barred_178 ?_
          have b_8 := iv_32 hI x8.toNat
          refine lv_iload hC.1 hC.2.1 d_md_barred_179 (lv_at hl 2 rfl) ?_
          refine ir_ge (tgt := 198) hC.1 hC.2.1 d_md_barred_181 (by decide) ⟨by omega, by omega⟩ ⟨by omega, by omega⟩ (fun c_9 => ?_) (fun c_9 => ?_)
          · skip
            refine lv_iinc (v := iI (x8 + 1)) (lv' := [(8, .int (iI (x8 + 1))), (7, .int (iI (S 30 (5 * (S 41 ((8 * k) + i).toNat)).toNat))), (6, .int (iI (mLv S k i))), (5, .int (iI (mEn S k i.toNat))), (4, .int (iI (S 37 k.toNat))), (3, .int (iI (S 41 ((8 * k) + i).toNat))), (0, .ref (G.2.1 25)), (1, .int (iI (k))), (2, .int (iI (i)))]) hC.1 hC.2.1 d_md_barred_198 hl (k := 0) rfl (iI_add _ _) (by decide) rfl (fun ls hl => ?_)
            refine lv_goto (tgt := 157) hC.1 hC.2.1 d_md_barred_201 (by decide) ?_
            exact ih_157 (n + 1) _ (by omega) (by first | rfl | omega) (by omega) (by rw [hv1, mSp_s _ _ _ _ n _ (by omega), ← hx8, if_neg (by omega)]) _ (lv_sub hl [0, 1, 2, 3, 4, 5, 6, 7, 8] rfl)
          · skip
            refine lv_iload hC.1 hC.2.1 d_md_barred_184 (lv_at hl 3 rfl) ?_
            refine lv_aload_n hC.1 hC.2.1 d_md_barred_186 rfl (lv_at hl 6 rfl) ?_
            refine gf_md_31 hC hw d_md_barred_187 ?_
            refine lv_iload hC.1 hC.2.1 d_md_barred_190 (lv_at hl 0 rfl) ?_
            refine ld_33 hC hw (by omega) (by omega) d_md_barred_192 ?_
            have b_10 := iv_33 hI x8.toNat
            refine ir_ge (tgt := 198) hC.1 hC.2.1 d_md_barred_193 (by decide) ⟨by omega, by omega⟩ ⟨by omega, by omega⟩ (fun c_11 => ?_) (fun c_11 => ?_)
            · skip
              refine lv_iinc (v := iI (x8 + 1)) (lv' := [(8, .int (iI (x8 + 1))), (7, .int (iI (S 30 (5 * (S 41 ((8 * k) + i).toNat)).toNat))), (6, .int (iI (mLv S k i))), (5, .int (iI (mEn S k i.toNat))), (4, .int (iI (S 37 k.toNat))), (3, .int (iI (S 41 ((8 * k) + i).toNat))), (0, .ref (G.2.1 25)), (1, .int (iI (k))), (2, .int (iI (i)))]) hC.1 hC.2.1 d_md_barred_198 hl (k := 0) rfl (iI_add _ _) (by decide) rfl (fun ls hl => ?_)
              refine lv_goto (tgt := 157) hC.1 hC.2.1 d_md_barred_201 (by decide) ?_
              exact ih_157 (n + 1) _ (by omega) (by first | rfl | omega) (by omega) (by rw [hv1, mSp_s _ _ _ _ n _ (by omega), ← hx8, if_neg (by omega)]) _ (lv_sub hl [0, 1, 2, 3, 4, 5, 6, 7, 8] rfl)
            · skip
              refine lv_iconst (v := iI 4) hC.1 hC.2.1 d_md_barred_196 rfl ?_
              exact rt_R hC hr hlk (by unfold mBr; rw [if_neg (by rw [j152_0]; decide), if_neg (by rw [j152_1]; decide), if_neg (by rw [j152_2]; decide), if_pos (by rw [hv1, mSp_s _ _ _ _ n _ (by omega), ← hx8, if_pos (by omega)])]) d_md_barred_197
    exact loop_157 _ 0 _ (Nat.lt_succ_self _) (by first | rfl | omega) (by have := iv_31 hI (S 41 (8 * k + i).toNat).toNat; omega) rfl _ (lv_sub hl [0, 1, 2, 3, 4, 5, 6, 7, 8] rfl)
  have join_123 : ∀ (ls : Array Slot), (mB1 S k i = false) → (mB2 S k i = false) → lv_has ls 9 [(7, .int (iI (S 30 (5 * (S 41 ((8 * k) + i).toNat)).toNat))), (6, .int (iI (mLv S k i))), (5, .int (iI (mEn S k i.toNat))), (4, .int (iI (S 37 k.toNat))), (3, .int (iI (S 41 ((8 * k) + i).toNat))), (0, .ref (G.2.1 25)), (1, .int (iI (k))), (2, .int (iI (i)))] → W p l e { frames := 3, cells := 0, slots := 0, locals := 68 } s m ([.ref (G.2.1 25), .int (iI (k)), .int (iI (i))] : List Value).toArray below meth c s.heap [] 0 0 (MQ below (qR (mBr S k i)) ([.ref (G.2.1 25), .int (iI (k)), .int (iI (i))] : List Value).toArray s 0 0 (fun _ => False)) (F0 m 123 ls []) := by
    intro ls j123_0 j123_1 hl
    refine lv_aload_n hC.1 hC.2.1 d_md_barred_123 rfl (lv_at hl 5 rfl) ?_
    refine gf_md_97 hC hw d_md_barred_124 ?_
    have b_12 := iv_25w hI
    refine ir_if_eq (tgt := 152) hC.1 hC.2.1 d_md_barred_127 (by decide) ⟨by omega, by omega⟩ (fun c_13 => ?_) (fun c_13 => ?_)
    · skip
      exact join_152 _ (by first | assumption | (simp [mB3, j123_0, j123_1, c_13]; done) | (simp [mB3, j123_0, j123_1, c_13]; omega) | (simp_all [mB3]; done) | (simp_all [mB3]; omega) | omega) (by first | assumption | (simp [mB3, j123_0, j123_1, c_13]; done) | (simp [mB3, j123_0, j123_1, c_13]; omega) | (simp_all [mB3]; done) | (simp_all [mB3]; omega) | omega) (by first | assumption | (simp [mB3, j123_0, j123_1, c_13]; done) | (simp [mB3, j123_0, j123_1, c_13]; omega) | (simp_all [mB3]; done) | (simp_all [mB3]; omega) | omega) (lv_sub hl [0, 1, 2, 3, 4, 5, 6, 7] rfl)
    · skip
      refine lv_aload_n hC.1 hC.2.1 d_md_barred_130 rfl (lv_at hl 5 rfl) ?_
      refine gf_md_34 hC hw d_md_barred_131 ?_
      refine lv_iload hC.1 hC.2.1 d_md_barred_134 (lv_at hl 3 rfl) ?_
      refine ld_34 hC hw (by omega) (by omega) d_md_barred_136 ?_
      have b_14 := iv_34 hI ((S 37 k.toNat).toNat)
      refine lv_aload_n hC.1 hC.2.1 d_md_barred_137 rfl (lv_at hl 5 rfl) ?_
      refine gf_md_22 hC hw d_md_barred_138 ?_
      refine lv_iconst (v := iI 5) hC.1 hC.2.1 d_md_barred_141 rfl ?_
      refine lv_iload_n hC.1 hC.2.1 d_md_barred_142 rfl (lv_at hl 4 rfl) ?_
      refine ir_mul hC.1 hC.2.1 d_md_barred_143 ?_
      refine lv_iconst (v := iI 2) hC.1 hC.2.1 d_md_barred_144 rfl ?_
      refine ir_add hC.1 hC.2.1 d_md_barred_145 ?_
      refine ld_30 hC hw (by omega) (by omega) d_md_barred_146 ?_
      have b_15 := iv_30 hI (((5 * (S 41 ((8 * k) + i).toNat)) + 2).toNat)
      refine ir_le (tgt := 152) hC.1 hC.2.1 d_md_barred_147 (by decide) ⟨by omega, by omega⟩ ⟨by omega, by omega⟩ (fun c_16 => ?_) (fun c_16 => ?_)
      · skip
        exact join_152 _ (by first | assumption | (simp [mB3, j123_0, j123_1, c_13, c_16]; done) | (simp [mB3, j123_0, j123_1, c_13, c_16]; omega) | (simp_all [mB3]; done) | (simp_all [mB3]; omega) | omega) (by first | assumption | (simp [mB3, j123_0, j123_1, c_13, c_16]; done) | (simp [mB3, j123_0, j123_1, c_13, c_16]; omega) | (simp_all [mB3]; done) | (simp_all [mB3]; omega) | omega) (by first | assumption | (simp [mB3, j123_0, j123_1, c_13, c_16]; done) | (simp [mB3, j123_0, j123_1, c_13, c_16]; omega) | (simp_all [mB3]; done) | (simp_all [mB3]; omega) | omega) (lv_sub hl [0, 1, 2, 3, 4, 5, 6, 7] rfl)
      · skip
        refine lv_iconst (v := iI 3) hC.1 hC.2.1 d_md_barred_150 rfl ?_
        exact rt_R hC hr hlk (by have q : mB3 S k i = true := (by simp [mB3, j123_0, j123_1, c_13, c_16]); unfold mBr; rw [if_neg (by rw [j123_0]; decide), if_neg (by rw [j123_1]; decide), if_pos q]) d_md_barred_151
  have join_78 : ∀ (ls : Array Slot), (mB1 S k i = false) → lv_has ls 9 [(7, .int (iI (S 30 (5 * (S 41 ((8 * k) + i).toNat)).toNat))), (6, .int (iI (mLv S k i))), (5, .int (iI (mEn S k i.toNat))), (4, .int (iI (S 37 k.toNat))), (3, .int (iI (S 41 ((8 * k) + i).toNat))), (0, .ref (G.2.1 25)), (1, .int (iI (k))), (2, .int (iI (i)))] → W p l e { frames := 3, cells := 0, slots := 0, locals := 68 } s m ([.ref (G.2.1 25), .int (iI (k)), .int (iI (i))] : List Value).toArray below meth c s.heap [] 0 0 (MQ below (qR (mBr S k i)) ([.ref (G.2.1 25), .int (iI (k)), .int (iI (i))] : List Value).toArray s 0 0 (fun _ => False)) (F0 m 78 ls []) := by
    intro ls j78_0 hl
    refine lv_aload_n hC.1 hC.2.1 d_md_barred_78 rfl (lv_at hl 5 rfl) ?_
    refine gf_md_22 hC hw d_md_barred_79 ?_
    refine lv_iconst (v := iI 5) hC.1 hC.2.1 d_md_barred_82 rfl ?_
    refine lv_iload_n hC.1 hC.2.1 d_md_barred_83 rfl (lv_at hl 4 rfl) ?_
    refine ir_mul hC.1 hC.2.1 d_md_barred_84 ?_
    refine lv_iconst (v := iI 1) hC.1 hC.2.1 d_md_barred_85 rfl ?_
    refine ir_add hC.1 hC.2.1 d_md_barred_86 ?_
    refine ld_30 hC hw (by omega) (by omega) d_md_barred_87 ?_
    have b_17 := iv_30 hI (((5 * (S 41 ((8 * k) + i).toNat)) + 1).toNat)
    refine ir_if_le (tgt := 123) hC.1 hC.2.1 d_md_barred_88 (by decide) ⟨by omega, by omega⟩ (fun c_18 => ?_) (fun c_18 => ?_)
    · skip
      exact join_123 _ (by first | assumption | (simp [mB2, j78_0, c_18]; done) | (simp [mB2, j78_0, c_18]; omega) | (simp_all [mB2]; done) | (simp_all [mB2]; omega) | omega) (by first | assumption | (simp [mB2, j78_0, c_18]; done) | (simp [mB2, j78_0, c_18]; omega) | (simp_all [mB2]; done) | (simp_all [mB2]; omega) | omega) (lv_sub hl [0, 1, 2, 3, 4, 5, 6, 7] rfl)
    · skip
      refine lv_aload_n hC.1 hC.2.1 d_md_barred_91 rfl (lv_at hl 5 rfl) ?_
      refine gf_md_40 hC hw d_md_barred_92 ?_
      refine lv_iload hC.1 hC.2.1 d_md_barred_95 (lv_at hl 3 rfl) ?_
      refine ld_36 hC hw (by omega) (by omega) d_md_barred_97 ?_
      have b_19 := iv_36 hI ((S 37 k.toNat).toNat)
      refine lv_aload_n hC.1 hC.2.1 d_md_barred_98 rfl (lv_at hl 5 rfl) ?_
      refine gf_md_22 hC hw d_md_barred_99 ?_
      refine lv_iconst (v := iI 5) hC.1 hC.2.1 d_md_barred_102 rfl ?_
      refine lv_iload_n hC.1 hC.2.1 d_md_barred_103 rfl (lv_at hl 4 rfl) ?_
      refine ir_mul hC.1 hC.2.1 d_md_barred_104 ?_
      refine lv_iconst (v := iI 1) hC.1 hC.2.1 d_md_barred_105 rfl ?_
      refine ir_add hC.1 hC.2.1 d_md_barred_106 ?_
      refine ld_30 hC hw (by omega) (by omega) d_md_barred_107 ?_
      have b_20 := iv_30 hI (((5 * (S 41 ((8 * k) + i).toNat)) + 1).toNat)
      refine ir_lt (tgt := 123) hC.1 hC.2.1 d_md_barred_108 (by decide) ⟨by omega, by omega⟩ ⟨by omega, by omega⟩ (fun c_21 => ?_) (fun c_21 => ?_)
      · skip
        exact join_123 _ (by first | assumption | (simp [mB2, j78_0, c_18, c_21]; done) | (simp [mB2, j78_0, c_18, c_21]; omega) | (simp_all [mB2]; done) | (simp_all [mB2]; omega) | omega) (by first | assumption | (simp [mB2, j78_0, c_18, c_21]; done) | (simp [mB2, j78_0, c_18, c_21]; omega) | (simp_all [mB2]; done) | (simp_all [mB2]; omega) | omega) (lv_sub hl [0, 1, 2, 3, 4, 5, 6, 7] rfl)
      · skip
        refine lv_iload hC.1 hC.2.1 d_md_barred_111 (lv_at hl 2 rfl) ?_
        refine lv_iload hC.1 hC.2.1 d_md_barred_113 (lv_at hl 1 rfl) ?_
        refine go_R (ca_S (As := [.int (iI (mEn S k i.toNat)), .int (iI (mLv S k i))]) (rest := []) hC hw (c_md_isNight l G S (mEn S k i.toNat) (mLv S k i) (by omega) (by omega)) (cv_md_125 hC rfl rfl (Nat.le_of_ble_eq_true rfl) (Nat.le_of_ble_eq_true rfl)) rfl hl.1 rfl (Nat.le_of_ble_eq_true rfl) d_md_barred_115 ⟨Nat.le_of_ble_eq_true rfl, Nat.le_of_ble_eq_true rfl⟩) ?_
        refine ir_beq (tgt := 123) hC d_md_barred_118 (by decide) (fun c_22 => ?_) (fun c_22 => ?_)
        · skip
          exact join_123 _ (by first | assumption | (simp [mB2, j78_0, c_18, c_21, c_22]; done) | (simp [mB2, j78_0, c_18, c_21, c_22]; omega) | (simp_all [mB2]; done) | (simp_all [mB2]; omega) | omega) (by first | assumption | (simp [mB2, j78_0, c_18, c_21, c_22]; done) | (simp [mB2, j78_0, c_18, c_21, c_22]; omega) | (simp_all [mB2]; done) | (simp_all [mB2]; omega) | omega) (lv_sub hl [0, 1, 2, 3, 4, 5, 6, 7] rfl)
        · skip
          refine lv_iconst (v := iI 2) hC.1 hC.2.1 d_md_barred_121 rfl ?_
          exact rt_R hC hr hlk (by have q : mB2 S k i = true := (by simp [mB2, j78_0, c_18, c_21, c_22]); unfold mBr; rw [if_neg (by rw [j78_0]; decide), if_pos q]) d_md_barred_122
  refine lv_iload hC.1 hC.2.1 d_md_barred_46 (lv_at hl 0 rfl) ?_
  refine ir_if_le (tgt := 78) hC.1 hC.2.1 d_md_barred_48 (by decide) ⟨by omega, by omega⟩ (fun c_23 => ?_) (fun c_23 => ?_)
  · skip
    exact join_78 _ (by first | assumption | (simp [mB1, c_23]; done) | (simp [mB1, c_23]; omega) | (simp_all [mB1]; done) | (simp_all [mB1]; omega) | omega) (lv_sub hl [0, 1, 2, 3, 4, 5, 6, 7] rfl)
  · skip
    refine lv_iload hC.1 hC.2.1 d_md_barred_51 (lv_at hl 0 rfl) ?_
    refine lv_aload_n hC.1 hC.2.1 d_md_barred_53 rfl (lv_at hl 5 rfl) ?_
    refine gf_md_59 hC hw d_md_barred_54 ?_
    refine lv_bipush (v := iI 8) hC.1 hC.2.1 d_md_barred_57 (by decide +kernel) ?_
    refine lv_iload_n hC.1 hC.2.1 d_md_barred_59 rfl (lv_at hl 6 rfl) ?_
    refine ir_mul hC.1 hC.2.1 d_md_barred_60 ?_
    refine lv_iload_n hC.1 hC.2.1 d_md_barred_61 rfl (lv_at hl 7 rfl) ?_
    refine ir_add hC.1 hC.2.1 d_md_barred_62 ?_
    refine ld_42 hC hw (by omega) (by omega) d_md_barred_63 ?_
    have b_24 := iv_42 hI (((8 * k) + i).toNat)
    refine lv_iconst (v := iI 1) hC.1 hC.2.1 d_md_barred_64 rfl ?_
    refine ir_ne (tgt := 72) hC.1 hC.2.1 d_md_barred_65 (by decide) ⟨by omega, by omega⟩ (by decide) (fun c_25 => ?_) (fun c_25 => ?_)
    · skip
      refine lv_iconst (v := iI 2) hC.1 hC.2.1 d_md_barred_72 rfl ?_
      refine ir_eq (tgt := 78) hC.1 hC.2.1 d_md_barred_73 (by decide) ⟨by omega, by omega⟩ (by decide) (fun c_26 => ?_) (fun c_26 => ?_)
      · skip
        exact join_78 _ (by first | assumption | (simp [mB1, c_23, c_25, c_26]; done) | (simp [mB1, c_23, c_25, c_26]; omega) | (simp_all [mB1]; done) | (simp_all [mB1]; omega) | omega) (lv_sub hl [0, 1, 2, 3, 4, 5, 6, 7] rfl)
      · skip
        refine lv_iconst (v := iI 1) hC.1 hC.2.1 d_md_barred_76 rfl ?_
        exact rt_R hC hr hlk (by have q : mB1 S k i = true := (by simp [mB1, c_23, c_25, c_26]); unfold mBr; rw [if_pos q]) d_md_barred_77
    · skip
      refine lv_iconst (v := iI 1) hC.1 hC.2.1 d_md_barred_68 rfl ?_
      refine lv_goto (tgt := 73) hC.1 hC.2.1 d_md_barred_69 (by decide) ?_
      refine ir_eq (tgt := 78) hC.1 hC.2.1 d_md_barred_73 (by decide) ⟨by omega, by omega⟩ (by decide) (fun c_27 => ?_) (fun c_27 => ?_)
      · skip
        exact join_78 _ (by first | assumption | (simp [mB1, c_23, c_25, c_27]; done) | (simp [mB1, c_23, c_25, c_27]; omega) | (simp_all [mB1]; done) | (simp_all [mB1]; omega) | omega) (lv_sub hl [0, 1, 2, 3, 4, 5, 6, 7] rfl)
      · skip
        refine lv_iconst (v := iI 1) hC.1 hC.2.1 d_md_barred_76 rfl ?_
        exact rt_R hC hr hlk (by have q : mB1 S k i = true := (by simp [mB1, c_23, c_25, c_27]); unfold mBr; rw [if_pos q]) d_md_barred_77
set_option maxHeartbeats 4000000 in
set_option maxRecDepth 100000 in
theorem c_md_between (l : Launch) (G : Gt) (S : St) (k : Int) (i : Int) (r : Int) (j : Int) (hI : Inv S) (hk : 0 ≤ k ∧ k ≤ 30) (hi : 0 ≤ i ∧ i < 7) (hr2 : 0 ≤ r ∧ r ≤ 30) (hj : 0 ≤ j ∧ j < 7) (hs : 1 ≤ S 35 (S 37 k.toNat).toNat) (hs2 : 1 ≤ S 35 (S 37 r.toNat).toNat) : Met l y_md_between [.code y_md_between b_md_between 12 (some .int)] { frames := 3, cells := 0, slots := 0, locals := 68 } (va_Pc [.ref (G.2.1 25), .int (iI (k)), .int (iI (i)), .int (iI (r)), .int (iI (j))] (fun U => wu G S U)) (qR (mBt S k i r j)) 0 0 (fun _ => False) := by
  refine mt_of (by decide +kernel) (Nat.le_of_ble_eq_true rfl) ?_
  intro p e s m below meth c ls hadm hC hr hlk hex hw hl
  have hC : CallFix p m c b_md_between 12 s _ tws "ChannelRulesModel" := hC
  have hl : lv_has ls 12 [(0, .ref (G.2.1 25)), (1, .int (iI (k))), (2, .int (iI (i))), (3, .int (iI (r))), (4, .int (iI (j)))] := hl
  refine lv_aload_n hC.1 hC.2.1 d_md_between_0 rfl (lv_at hl 0 rfl) ?_
  refine gf_md_56 hC hw d_md_between_1 ?_
  refine lv_bipush (v := iI 8) hC.1 hC.2.1 d_md_between_4 (by decide +kernel) ?_
  refine lv_iload_n hC.1 hC.2.1 d_md_between_6 rfl (lv_at hl 1 rfl) ?_
  refine ir_mul hC.1 hC.2.1 d_md_between_7 ?_
  refine lv_iload_n hC.1 hC.2.1 d_md_between_8 rfl (lv_at hl 2 rfl) ?_
  refine ir_add hC.1 hC.2.1 d_md_between_9 ?_
  refine ld_41 hC hw (by omega) (by omega) d_md_between_10 ?_
  have b_1 := iv_41 hI (((8 * k) + i).toNat)
  refine lv_istore (lv' := [(5, .int (iI (S 41 ((8 * k) + i).toNat))), (0, .ref (G.2.1 25)), (1, .int (iI (k))), (2, .int (iI (i))), (3, .int (iI (r))), (4, .int (iI (j)))]) hC.1 hC.2.1 d_md_between_11 hl (by decide) rfl (fun ls hl => ?_)
  refine lv_aload_n hC.1 hC.2.1 d_md_between_13 rfl (lv_at hl 1 rfl) ?_
  refine lv_iload_n hC.1 hC.2.1 d_md_between_14 rfl (lv_at hl 2 rfl) ?_
  refine lv_iload_n hC.1 hC.2.1 d_md_between_15 rfl (lv_at hl 3 rfl) ?_
  refine go_R (ca_V (As := [.int (iI (k)), .int (iI (i))]) (rest := []) hC hw (c_md_enters l G S k i hI (by omega) (by omega) (by omega)) (cv_md_119 hC rfl rfl (Nat.le_of_ble_eq_true rfl) (Nat.le_of_ble_eq_true rfl)) (by decide) rfl rfl rfl hl.1 rfl (Nat.le_of_ble_eq_true rfl) d_md_between_16 ⟨Nat.le_of_ble_eq_true rfl, Nat.le_of_ble_eq_true rfl⟩) ?_
  have r_2 := mEn_b hI k (show 1 ≤ S 35 (S 37 k.toNat).toNat by omega) i.toNat (by omega)
  refine lv_istore (lv' := [(6, .int (iI (mEn S k i.toNat))), (5, .int (iI (S 41 ((8 * k) + i).toNat))), (0, .ref (G.2.1 25)), (1, .int (iI (k))), (2, .int (iI (i))), (3, .int (iI (r))), (4, .int (iI (j)))]) hC.1 hC.2.1 d_md_between_19 hl (by decide) rfl (fun ls hl => ?_)
  refine lv_aload_n hC.1 hC.2.1 d_md_between_21 rfl (lv_at hl 2 rfl) ?_
  refine lv_iload_n hC.1 hC.2.1 d_md_between_22 rfl (lv_at hl 3 rfl) ?_
  refine lv_iload_n hC.1 hC.2.1 d_md_between_23 rfl (lv_at hl 4 rfl) ?_
  refine go_R (ca_V (As := [.int (iI (k)), .int (iI (i))]) (rest := []) hC hw (c_md_leaves l G S k i hI (by omega) (by omega) (by omega)) (cv_md_122 hC rfl rfl (Nat.le_of_ble_eq_true rfl) (Nat.le_of_ble_eq_true rfl)) (by decide) rfl rfl rfl hl.1 rfl (Nat.le_of_ble_eq_true rfl) d_md_between_24 ⟨Nat.le_of_ble_eq_true rfl, Nat.le_of_ble_eq_true rfl⟩) ?_
  have r_3 := mLv_b hI k (show 1 ≤ S 35 (S 37 k.toNat).toNat by omega) i (by omega)
  refine lv_istore (lv' := [(7, .int (iI (mLv S k i))), (6, .int (iI (mEn S k i.toNat))), (5, .int (iI (S 41 ((8 * k) + i).toNat))), (0, .ref (G.2.1 25)), (1, .int (iI (k))), (2, .int (iI (i))), (3, .int (iI (r))), (4, .int (iI (j)))]) hC.1 hC.2.1 d_md_between_27 hl (by decide) rfl (fun ls hl => ?_)
  refine lv_aload_n hC.1 hC.2.1 d_md_between_29 rfl (lv_at hl 3 rfl) ?_
  refine lv_iload_n hC.1 hC.2.1 d_md_between_30 rfl (lv_at hl 6 rfl) ?_
  refine lv_iload hC.1 hC.2.1 d_md_between_31 (lv_at hl 7 rfl) ?_
  refine go_R (ca_V (As := [.int (iI (r)), .int (iI (j))]) (rest := []) hC hw (c_md_enters l G S r j hI (by omega) (by omega) (by omega)) (cv_md_119 hC rfl rfl (Nat.le_of_ble_eq_true rfl) (Nat.le_of_ble_eq_true rfl)) (by decide) rfl rfl rfl hl.1 rfl (Nat.le_of_ble_eq_true rfl) d_md_between_33 ⟨Nat.le_of_ble_eq_true rfl, Nat.le_of_ble_eq_true rfl⟩) ?_
  have r_4 := mEn_b hI r (show 1 ≤ S 35 (S 37 r.toNat).toNat by omega) j.toNat (by omega)
  refine lv_istore (lv' := [(8, .int (iI (mEn S r j.toNat))), (7, .int (iI (mLv S k i))), (6, .int (iI (mEn S k i.toNat))), (5, .int (iI (S 41 ((8 * k) + i).toNat))), (0, .ref (G.2.1 25)), (1, .int (iI (k))), (2, .int (iI (i))), (3, .int (iI (r))), (4, .int (iI (j)))]) hC.1 hC.2.1 d_md_between_36 hl (by decide) rfl (fun ls hl => ?_)
  refine lv_aload_n hC.1 hC.2.1 d_md_between_38 rfl (lv_at hl 4 rfl) ?_
  refine lv_iload_n hC.1 hC.2.1 d_md_between_39 rfl (lv_at hl 7 rfl) ?_
  refine lv_iload hC.1 hC.2.1 d_md_between_40 (lv_at hl 8 rfl) ?_
  refine go_R (ca_V (As := [.int (iI (r)), .int (iI (j))]) (rest := []) hC hw (c_md_leaves l G S r j hI (by omega) (by omega) (by omega)) (cv_md_122 hC rfl rfl (Nat.le_of_ble_eq_true rfl) (Nat.le_of_ble_eq_true rfl)) (by decide) rfl rfl rfl hl.1 rfl (Nat.le_of_ble_eq_true rfl) d_md_between_42 ⟨Nat.le_of_ble_eq_true rfl, Nat.le_of_ble_eq_true rfl⟩) ?_
  have r_5 := mLv_b hI r (show 1 ≤ S 35 (S 37 r.toNat).toNat by omega) j (by omega)
  refine lv_istore (lv' := [(9, .int (iI (mLv S r j))), (8, .int (iI (mEn S r j.toNat))), (7, .int (iI (mLv S k i))), (6, .int (iI (mEn S k i.toNat))), (5, .int (iI (S 41 ((8 * k) + i).toNat))), (0, .ref (G.2.1 25)), (1, .int (iI (k))), (2, .int (iI (i))), (3, .int (iI (r))), (4, .int (iI (j)))]) hC.1 hC.2.1 d_md_between_45 hl (by decide) rfl (fun ls hl => ?_)
  refine lv_aload_n hC.1 hC.2.1 d_md_between_47 rfl (lv_at hl 5 rfl) ?_
  refine gf_md_56 hC hw d_md_between_48 ?_
  refine lv_bipush (v := iI 8) hC.1 hC.2.1 d_md_between_51 (by decide +kernel) ?_
  refine lv_iload_n hC.1 hC.2.1 d_md_between_53 rfl (lv_at hl 8 rfl) ?_
  refine ir_mul hC.1 hC.2.1 d_md_between_54 ?_
  refine lv_iload hC.1 hC.2.1 d_md_between_55 (lv_at hl 9 rfl) ?_
  refine ir_add hC.1 hC.2.1 d_md_between_57 ?_
  refine ld_41 hC hw (by omega) (by omega) d_md_between_58 ?_
  have b_6 := iv_41 hI (((8 * r) + j).toNat)
  refine lv_iload hC.1 hC.2.1 d_md_between_59 (lv_at hl 4 rfl) ?_
  refine ir_ne (tgt := 78) hC.1 hC.2.1 d_md_between_61 (by decide) ⟨by omega, by omega⟩ ⟨by omega, by omega⟩ (fun c_7 => ?_) (fun c_7 => ?_)
  · skip
    refine lv_iconst (v := iI 0) hC.1 hC.2.1 d_md_between_78 rfl ?_
    exact rt_R hC hr hlk (by unfold mBt; first | (rw [if_pos (by omega)]; done) | (rw [if_neg (by omega), if_pos (by omega)]; done) | (rw [if_neg (by omega), if_neg (by omega), if_pos (by omega)]; first | (rw [if_pos (by omega)]; done) | (rw [if_neg (by omega)]; done)) | (rw [if_neg (by omega), if_neg (by omega), if_neg (by omega)]; first | (rw [if_pos (by omega)]; done) | (rw [if_neg (by omega)]; done))) d_md_between_79
  · skip
    refine lv_iload hC.1 hC.2.1 d_md_between_64 (lv_at hl 3 rfl) ?_
    refine lv_iload hC.1 hC.2.1 d_md_between_66 (lv_at hl 0 rfl) ?_
    refine ir_ge (tgt := 78) hC.1 hC.2.1 d_md_between_68 (by decide) ⟨by omega, by omega⟩ ⟨by omega, by omega⟩ (fun c_8 => ?_) (fun c_8 => ?_)
    · skip
      refine lv_iconst (v := iI 0) hC.1 hC.2.1 d_md_between_78 rfl ?_
      exact rt_R hC hr hlk (by unfold mBt; first | (rw [if_pos (by omega)]; done) | (rw [if_neg (by omega), if_pos (by omega)]; done) | (rw [if_neg (by omega), if_neg (by omega), if_pos (by omega)]; first | (rw [if_pos (by omega)]; done) | (rw [if_neg (by omega)]; done)) | (rw [if_neg (by omega), if_neg (by omega), if_neg (by omega)]; first | (rw [if_pos (by omega)]; done) | (rw [if_neg (by omega)]; done))) d_md_between_79
    · skip
      refine lv_iload hC.1 hC.2.1 d_md_between_71 (lv_at hl 1 rfl) ?_
      refine lv_iload hC.1 hC.2.1 d_md_between_73 (lv_at hl 2 rfl) ?_
      refine ir_lt (tgt := 80) hC.1 hC.2.1 d_md_between_75 (by decide) ⟨by omega, by omega⟩ ⟨by omega, by omega⟩ (fun c_9 => ?_) (fun c_9 => ?_)
      · skip
        refine lv_aload_n hC.1 hC.2.1 d_md_between_80 rfl (lv_at hl 5 rfl) ?_
        refine gf_md_40 hC hw d_md_between_81 ?_
        refine lv_aload_n hC.1 hC.2.1 d_md_between_84 rfl (lv_at hl 5 rfl) ?_
        refine gf_md_43 hC hw d_md_between_85 ?_
        refine lv_iload_n hC.1 hC.2.1 d_md_between_88 rfl (lv_at hl 6 rfl) ?_
        refine ld_37 hC hw (by omega) (by omega) d_md_between_89 ?_
        have b_10 := iv_37 hI k.toNat
        refine ld_36 hC hw (by omega) (by omega) d_md_between_90 ?_
        have b_11 := iv_36 hI ((S 37 k.toNat).toNat)
        refine lv_iconst (v := iI 2) hC.1 hC.2.1 d_md_between_91 rfl ?_
        refine ir_eq (tgt := 110) hC.1 hC.2.1 d_md_between_92 (by decide) ⟨by omega, by omega⟩ (by decide) (fun c_12 => ?_) (fun c_12 => ?_)
        · skip
          refine lv_iconst (v := iI 5) hC.1 hC.2.1 d_md_between_110 rfl ?_
          exact rt_R hC hr hlk (by unfold mBt; first | (rw [if_pos (by omega)]; done) | (rw [if_neg (by omega), if_pos (by omega)]; done) | (rw [if_neg (by omega), if_neg (by omega), if_pos (by omega)]; first | (rw [if_pos (by omega)]; done) | (rw [if_neg (by omega)]; done)) | (rw [if_neg (by omega), if_neg (by omega), if_neg (by omega)]; first | (rw [if_pos (by omega)]; done) | (rw [if_neg (by omega)]; done))) d_md_between_111
        · skip
          refine lv_aload_n hC.1 hC.2.1 d_md_between_95 rfl (lv_at hl 5 rfl) ?_
          refine gf_md_40 hC hw d_md_between_96 ?_
          refine lv_aload_n hC.1 hC.2.1 d_md_between_99 rfl (lv_at hl 5 rfl) ?_
          refine gf_md_43 hC hw d_md_between_100 ?_
          refine lv_iload_n hC.1 hC.2.1 d_md_between_103 rfl (lv_at hl 8 rfl) ?_
          refine ld_37 hC hw (by omega) (by omega) d_md_between_104 ?_
          have b_13 := iv_37 hI r.toNat
          refine ld_36 hC hw (by omega) (by omega) d_md_between_105 ?_
          have b_14 := iv_36 hI ((S 37 r.toNat).toNat)
          refine lv_iconst (v := iI 2) hC.1 hC.2.1 d_md_between_106 rfl ?_
          refine ir_ne (tgt := 112) hC.1 hC.2.1 d_md_between_107 (by decide) ⟨by omega, by omega⟩ (by decide) (fun c_15 => ?_) (fun c_15 => ?_)
          · skip
            refine lv_aload_n hC.1 hC.2.1 d_md_between_112 rfl (lv_at hl 5 rfl) ?_
            refine gf_md_34 hC hw d_md_between_113 ?_
            refine lv_aload_n hC.1 hC.2.1 d_md_between_116 rfl (lv_at hl 5 rfl) ?_
            refine gf_md_43 hC hw d_md_between_117 ?_
            refine lv_iload_n hC.1 hC.2.1 d_md_between_120 rfl (lv_at hl 6 rfl) ?_
            refine ld_37 hC hw (by omega) (by omega) d_md_between_121 ?_
            have b_16 := iv_37 hI k.toNat
            refine ld_34 hC hw (by omega) (by omega) d_md_between_122 ?_
            have b_17 := iv_34 hI ((S 37 k.toNat).toNat)
            refine lv_aload_n hC.1 hC.2.1 d_md_between_123 rfl (lv_at hl 5 rfl) ?_
            refine gf_md_34 hC hw d_md_between_124 ?_
            refine lv_aload_n hC.1 hC.2.1 d_md_between_127 rfl (lv_at hl 5 rfl) ?_
            refine gf_md_43 hC hw d_md_between_128 ?_
            refine lv_iload_n hC.1 hC.2.1 d_md_between_131 rfl (lv_at hl 8 rfl) ?_
            refine ld_37 hC hw (by omega) (by omega) d_md_between_132 ?_
            have b_18 := iv_37 hI r.toNat
            refine ld_34 hC hw (by omega) (by omega) d_md_between_133 ?_
            have b_19 := iv_34 hI ((S 37 r.toNat).toNat)
            refine ir_add hC.1 hC.2.1 d_md_between_134 ?_
            refine lv_aload_n hC.1 hC.2.1 d_md_between_135 rfl (lv_at hl 5 rfl) ?_
            refine gf_md_19 hC hw d_md_between_136 ?_
            refine lv_iload hC.1 hC.2.1 d_md_between_139 (lv_at hl 4 rfl) ?_
            refine ld_29 hC hw (by omega) (by omega) d_md_between_141 ?_
            have b_20 := iv_29 hI ((S 41 ((8 * k) + i).toNat).toNat)
            refine ir_le (tgt := 149) hC.1 hC.2.1 d_md_between_142 (by decide) ⟨by omega, by omega⟩ ⟨by omega, by omega⟩ (fun c_21 => ?_) (fun c_21 => ?_)
            · skip
              refine lv_iconst (v := iI 0) hC.1 hC.2.1 d_md_between_149 rfl ?_
              refine lv_istore (lv' := [(10, .int (iI (0))), (9, .int (iI (mLv S r j))), (8, .int (iI (mEn S r j.toNat))), (7, .int (iI (mLv S k i))), (6, .int (iI (mEn S k i.toNat))), (5, .int (iI (S 41 ((8 * k) + i).toNat))), (0, .ref (G.2.1 25)), (1, .int (iI (k))), (2, .int (iI (i))), (3, .int (iI (r))), (4, .int (iI (j)))]) hC.1 hC.2.1 d_md_between_150 hl (by decide) rfl (fun ls hl => ?_)
              refine lv_aload_n hC.1 hC.2.1 d_md_between_152 rfl (lv_at hl 6 rfl) ?_
              refine gf_md_59 hC hw d_md_between_153 ?_
              refine lv_bipush (v := iI 8) hC.1 hC.2.1 d_md_between_156 (by decide +kernel) ?_
              refine lv_iload_n hC.1 hC.2.1 d_md_between_158 rfl (lv_at hl 7 rfl) ?_
              refine ir_mul hC.1 hC.2.1 d_md_between_159 ?_
              refine lv_iload_n hC.1 hC.2.1 d_md_between_160 rfl (lv_at hl 8 rfl) ?_
              refine ir_add hC.1 hC.2.1 d_md_between_161 ?_
              refine ld_42 hC hw (by omega) (by omega) d_md_between_162 ?_
              have b_22 := iv_42 hI (((8 * k) + i).toNat)
              refine lv_aload_n hC.1 hC.2.1 d_md_between_163 rfl (lv_at hl 6 rfl) ?_
              refine gf_md_59 hC hw d_md_between_164 ?_
              refine lv_bipush (v := iI 8) hC.1 hC.2.1 d_md_between_167 (by decide +kernel) ?_
              refine lv_iload_n hC.1 hC.2.1 d_md_between_169 rfl (lv_at hl 9 rfl) ?_
              refine ir_mul hC.1 hC.2.1 d_md_between_170 ?_
              refine lv_iload hC.1 hC.2.1 d_md_between_171 (lv_at hl 10 rfl) ?_
              refine ir_add hC.1 hC.2.1 d_md_between_173 ?_
              refine ld_42 hC hw (by omega) (by omega) d_md_between_174 ?_
              have b_23 := iv_42 hI (((8 * r) + j).toNat)
              refine ir_eq (tgt := 205) hC.1 hC.2.1 d_md_between_175 (by decide) ⟨by omega, by omega⟩ ⟨by omega, by omega⟩ (fun c_24 => ?_) (fun c_24 => ?_)
              · skip
                refine lv_iload hC.1 hC.2.1 d_md_between_205 (lv_at hl 4 rfl) ?_
                refine lv_iload hC.1 hC.2.1 d_md_between_207 (lv_at hl 2 rfl) ?_
                refine ir_ge (tgt := 219) hC.1 hC.2.1 d_md_between_209 (by decide) ⟨by omega, by omega⟩ ⟨by omega, by omega⟩ (fun c_25 => ?_) (fun c_25 => ?_)
                · skip
                  refine lv_iload hC.1 hC.2.1 d_md_between_219 (lv_at hl 2 rfl) ?_
                  refine lv_iload hC.1 hC.2.1 d_md_between_221 (lv_at hl 4 rfl) ?_
                  refine ir_ge (tgt := 237) hC.1 hC.2.1 d_md_between_223 (by decide) ⟨by omega, by omega⟩ ⟨by omega, by omega⟩ (fun c_26 => ?_) (fun c_26 => ?_)
                  · skip
                    refine lv_iconst (v := iI 0) hC.1 hC.2.1 d_md_between_237 rfl ?_
                    refine lv_istore (lv' := [(11, .int (iI (0))), (10, .int (iI (0))), (9, .int (iI (mLv S r j))), (8, .int (iI (mEn S r j.toNat))), (7, .int (iI (mLv S k i))), (6, .int (iI (mEn S k i.toNat))), (5, .int (iI (S 41 ((8 * k) + i).toNat))), (0, .ref (G.2.1 25)), (1, .int (iI (k))), (2, .int (iI (i))), (3, .int (iI (r))), (4, .int (iI (j)))]) hC.1 hC.2.1 d_md_between_238 hl (by decide) rfl (fun ls hl => ?_)
                    refine lv_iload hC.1 hC.2.1 d_md_between_240 (lv_at hl 0 rfl) ?_
                    refine ir_if_ne (tgt := 269) hC.1 hC.2.1 d_md_between_242 (by decide) (by decide) (fun c_27 => ?_) (fun c_27 => ?_)
                    · exact absurd c_27 (by decide)
                    · skip
                      refine lv_aload_n hC.1 hC.2.1 d_md_between_245 rfl (lv_at hl 7 rfl) ?_
                      refine gf_md_22 hC hw d_md_between_246 ?_
                      refine lv_iconst (v := iI 5) hC.1 hC.2.1 d_md_between_249 rfl ?_
                      refine lv_iload hC.1 hC.2.1 d_md_between_250 (lv_at hl 6 rfl) ?_
                      refine ir_mul hC.1 hC.2.1 d_md_between_252 ?_
                      refine lv_iconst (v := iI 4) hC.1 hC.2.1 d_md_between_253 rfl ?_
                      refine ir_add hC.1 hC.2.1 d_md_between_254 ?_
                      refine ld_30 hC hw (by omega) (by omega) d_md_between_255 ?_
                      have b_28 := iv_30 hI (((5 * (S 41 ((8 * k) + i).toNat)) + 4).toNat)
                      refine ir_if_eq (tgt := 264) hC.1 hC.2.1 d_md_between_256 (by decide) ⟨by omega, by omega⟩ (fun c_29 => ?_) (fun c_29 => ?_)
                      · skip
                        refine lv_bipush (v := iI 7) hC.1 hC.2.1 d_md_between_264 (by decide +kernel) ?_
                        refine lv_goto (tgt := 270) hC.1 hC.2.1 d_md_between_266 (by decide) ?_
                        exact rt_R hC hr hlk (by unfold mBt; first | (rw [if_pos (by omega)]; done) | (rw [if_neg (by omega), if_pos (by omega)]; done) | (rw [if_neg (by omega), if_neg (by omega), if_pos (by omega)]; first | (rw [if_pos (by omega)]; done) | (rw [if_neg (by omega)]; done)) | (rw [if_neg (by omega), if_neg (by omega), if_neg (by omega)]; first | (rw [if_pos (by omega)]; done) | (rw [if_neg (by omega)]; done))) d_md_between_270
                      · skip
                        refine lv_iload hC.1 hC.2.1 d_md_between_259 (lv_at hl 1 rfl) ?_
                        refine ir_if_eq (tgt := 269) hC.1 hC.2.1 d_md_between_261 (by decide) (by decide) (fun c_30 => ?_) (fun c_30 => ?_)
                        · skip
                          refine lv_iconst (v := iI 0) hC.1 hC.2.1 d_md_between_269 rfl ?_
                          exact rt_R hC hr hlk (by unfold mBt; first | (rw [if_pos (by omega)]; done) | (rw [if_neg (by omega), if_pos (by omega)]; done) | (rw [if_neg (by omega), if_neg (by omega), if_pos (by omega)]; first | (rw [if_pos (by omega)]; done) | (rw [if_neg (by omega)]; done)) | (rw [if_neg (by omega), if_neg (by omega), if_neg (by omega)]; first | (rw [if_pos (by omega)]; done) | (rw [if_neg (by omega)]; done))) d_md_between_270
                        · exact absurd c_30 (by decide)
                  · skip
                    refine lv_iload hC.1 hC.2.1 d_md_between_226 (lv_at hl 1 rfl) ?_
                    refine lv_iload hC.1 hC.2.1 d_md_between_228 (lv_at hl 3 rfl) ?_
                    refine ir_ge (tgt := 237) hC.1 hC.2.1 d_md_between_230 (by decide) ⟨by omega, by omega⟩ ⟨by omega, by omega⟩ (fun c_31 => ?_) (fun c_31 => ?_)
                    · skip
                      refine lv_iconst (v := iI 0) hC.1 hC.2.1 d_md_between_237 rfl ?_
                      refine lv_istore (lv' := [(11, .int (iI (0))), (10, .int (iI (0))), (9, .int (iI (mLv S r j))), (8, .int (iI (mEn S r j.toNat))), (7, .int (iI (mLv S k i))), (6, .int (iI (mEn S k i.toNat))), (5, .int (iI (S 41 ((8 * k) + i).toNat))), (0, .ref (G.2.1 25)), (1, .int (iI (k))), (2, .int (iI (i))), (3, .int (iI (r))), (4, .int (iI (j)))]) hC.1 hC.2.1 d_md_between_238 hl (by decide) rfl (fun ls hl => ?_)
                      refine lv_iload hC.1 hC.2.1 d_md_between_240 (lv_at hl 0 rfl) ?_
                      refine ir_if_ne (tgt := 269) hC.1 hC.2.1 d_md_between_242 (by decide) (by decide) (fun c_32 => ?_) (fun c_32 => ?_)
                      · exact absurd c_32 (by decide)
                      · skip
                        refine lv_aload_n hC.1 hC.2.1 d_md_between_245 rfl (lv_at hl 7 rfl) ?_
                        refine gf_md_22 hC hw d_md_between_246 ?_
                        refine lv_iconst (v := iI 5) hC.1 hC.2.1 d_md_between_249 rfl ?_
                        refine lv_iload hC.1 hC.2.1 d_md_between_250 (lv_at hl 6 rfl) ?_
                        refine ir_mul hC.1 hC.2.1 d_md_between_252 ?_
                        refine lv_iconst (v := iI 4) hC.1 hC.2.1 d_md_between_253 rfl ?_
                        refine ir_add hC.1 hC.2.1 d_md_between_254 ?_
                        refine ld_30 hC hw (by omega) (by omega) d_md_between_255 ?_
                        have b_33 := iv_30 hI (((5 * (S 41 ((8 * k) + i).toNat)) + 4).toNat)
                        refine ir_if_eq (tgt := 264) hC.1 hC.2.1 d_md_between_256 (by decide) ⟨by omega, by omega⟩ (fun c_34 => ?_) (fun c_34 => ?_)
                        · skip
                          refine lv_bipush (v := iI 7) hC.1 hC.2.1 d_md_between_264 (by decide +kernel) ?_
                          refine lv_goto (tgt := 270) hC.1 hC.2.1 d_md_between_266 (by decide) ?_
                          exact rt_R hC hr hlk (by unfold mBt; first | (rw [if_pos (by omega)]; done) | (rw [if_neg (by omega), if_pos (by omega)]; done) | (rw [if_neg (by omega), if_neg (by omega), if_pos (by omega)]; first | (rw [if_pos (by omega)]; done) | (rw [if_neg (by omega)]; done)) | (rw [if_neg (by omega), if_neg (by omega), if_neg (by omega)]; first | (rw [if_pos (by omega)]; done) | (rw [if_neg (by omega)]; done))) d_md_between_270
                        · skip
                          refine lv_iload hC.1 hC.2.1 d_md_between_259 (lv_at hl 1 rfl) ?_
                          refine ir_if_eq (tgt := 269) hC.1 hC.2.1 d_md_between_261 (by decide) (by decide) (fun c_35 => ?_) (fun c_35 => ?_)
                          · skip
                            refine lv_iconst (v := iI 0) hC.1 hC.2.1 d_md_between_269 rfl ?_
                            exact rt_R hC hr hlk (by unfold mBt; first | (rw [if_pos (by omega)]; done) | (rw [if_neg (by omega), if_pos (by omega)]; done) | (rw [if_neg (by omega), if_neg (by omega), if_pos (by omega)]; first | (rw [if_pos (by omega)]; done) | (rw [if_neg (by omega)]; done)) | (rw [if_neg (by omega), if_neg (by omega), if_neg (by omega)]; first | (rw [if_pos (by omega)]; done) | (rw [if_neg (by omega)]; done))) d_md_between_270
                          · exact absurd c_35 (by decide)
                    · skip
                      refine lv_iconst (v := iI 1) hC.1 hC.2.1 d_md_between_233 rfl ?_
                      refine lv_goto (tgt := 238) hC.1 hC.2.1 d_md_between_234 (by decide) ?_
                      refine lv_istore (lv' := [(11, .int (iI (1))), (10, .int (iI (0))), (9, .int (iI (mLv S r j))), (8, .int (iI (mEn S r j.toNat))), (7, .int (iI (mLv S k i))), (6, .int (iI (mEn S k i.toNat))), (5, .int (iI (S 41 ((8 * k) + i).toNat))), (0, .ref (G.2.1 25)), (1, .int (iI (k))), (2, .int (iI (i))), (3, .int (iI (r))), (4, .int (iI (j)))]) hC.1 hC.2.1 d_md_between_238 hl (by decide) rfl (fun ls hl => ?_)
                      refine lv_iload hC.1 hC.2.1 d_md_between_240 (lv_at hl 0 rfl) ?_
                      refine ir_if_ne (tgt := 269) hC.1 hC.2.1 d_md_between_242 (by decide) (by decide) (fun c_36 => ?_) (fun c_36 => ?_)
                      · skip
                        refine lv_iconst (v := iI 0) hC.1 hC.2.1 d_md_between_269 rfl ?_
                        exact rt_R hC hr hlk (by unfold mBt; first | (rw [if_pos (by omega)]; done) | (rw [if_neg (by omega), if_pos (by omega)]; done) | (rw [if_neg (by omega), if_neg (by omega), if_pos (by omega)]; first | (rw [if_pos (by omega)]; done) | (rw [if_neg (by omega)]; done)) | (rw [if_neg (by omega), if_neg (by omega), if_neg (by omega)]; first | (rw [if_pos (by omega)]; done) | (rw [if_neg (by omega)]; done))) d_md_between_270
                      · exact absurd c_36 (by decide)
                · skip
                  refine lv_iload hC.1 hC.2.1 d_md_between_212 (lv_at hl 3 rfl) ?_
                  refine lv_iload hC.1 hC.2.1 d_md_between_214 (lv_at hl 1 rfl) ?_
                  refine ir_lt (tgt := 233) hC.1 hC.2.1 d_md_between_216 (by decide) ⟨by omega, by omega⟩ ⟨by omega, by omega⟩ (fun c_37 => ?_) (fun c_37 => ?_)
                  · skip
                    refine lv_iconst (v := iI 1) hC.1 hC.2.1 d_md_between_233 rfl ?_
                    refine lv_goto (tgt := 238) hC.1 hC.2.1 d_md_between_234 (by decide) ?_
                    refine lv_istore (lv' := [(11, .int (iI (1))), (10, .int (iI (0))), (9, .int (iI (mLv S r j))), (8, .int (iI (mEn S r j.toNat))), (7, .int (iI (mLv S k i))), (6, .int (iI (mEn S k i.toNat))), (5, .int (iI (S 41 ((8 * k) + i).toNat))), (0, .ref (G.2.1 25)), (1, .int (iI (k))), (2, .int (iI (i))), (3, .int (iI (r))), (4, .int (iI (j)))]) hC.1 hC.2.1 d_md_between_238 hl (by decide) rfl (fun ls hl => ?_)
                    refine lv_iload hC.1 hC.2.1 d_md_between_240 (lv_at hl 0 rfl) ?_
                    refine ir_if_ne (tgt := 269) hC.1 hC.2.1 d_md_between_242 (by decide) (by decide) (fun c_38 => ?_) (fun c_38 => ?_)
                    · skip
                      refine lv_iconst (v := iI 0) hC.1 hC.2.1 d_md_between_269 rfl ?_
                      exact rt_R hC hr hlk (by unfold mBt; first | (rw [if_pos (by omega)]; done) | (rw [if_neg (by omega), if_pos (by omega)]; done) | (rw [if_neg (by omega), if_neg (by omega), if_pos (by omega)]; first | (rw [if_pos (by omega)]; done) | (rw [if_neg (by omega)]; done)) | (rw [if_neg (by omega), if_neg (by omega), if_neg (by omega)]; first | (rw [if_pos (by omega)]; done) | (rw [if_neg (by omega)]; done))) d_md_between_270
                    · exact absurd c_38 (by decide)
                  · skip
                    refine lv_iload hC.1 hC.2.1 d_md_between_219 (lv_at hl 2 rfl) ?_
                    refine lv_iload hC.1 hC.2.1 d_md_between_221 (lv_at hl 4 rfl) ?_
                    refine ir_ge (tgt := 237) hC.1 hC.2.1 d_md_between_223 (by decide) ⟨by omega, by omega⟩ ⟨by omega, by omega⟩ (fun c_39 => ?_) (fun c_39 => ?_)
                    · skip
                      refine lv_iconst (v := iI 0) hC.1 hC.2.1 d_md_between_237 rfl ?_
                      refine lv_istore (lv' := [(11, .int (iI (0))), (10, .int (iI (0))), (9, .int (iI (mLv S r j))), (8, .int (iI (mEn S r j.toNat))), (7, .int (iI (mLv S k i))), (6, .int (iI (mEn S k i.toNat))), (5, .int (iI (S 41 ((8 * k) + i).toNat))), (0, .ref (G.2.1 25)), (1, .int (iI (k))), (2, .int (iI (i))), (3, .int (iI (r))), (4, .int (iI (j)))]) hC.1 hC.2.1 d_md_between_238 hl (by decide) rfl (fun ls hl => ?_)
                      refine lv_iload hC.1 hC.2.1 d_md_between_240 (lv_at hl 0 rfl) ?_
                      refine ir_if_ne (tgt := 269) hC.1 hC.2.1 d_md_between_242 (by decide) (by decide) (fun c_40 => ?_) (fun c_40 => ?_)
                      · exact absurd c_40 (by decide)
                      · skip
                        refine lv_aload_n hC.1 hC.2.1 d_md_between_245 rfl (lv_at hl 7 rfl) ?_
                        refine gf_md_22 hC hw d_md_between_246 ?_
                        refine lv_iconst (v := iI 5) hC.1 hC.2.1 d_md_between_249 rfl ?_
                        refine lv_iload hC.1 hC.2.1 d_md_between_250 (lv_at hl 6 rfl) ?_
                        refine ir_mul hC.1 hC.2.1 d_md_between_252 ?_
                        refine lv_iconst (v := iI 4) hC.1 hC.2.1 d_md_between_253 rfl ?_
                        refine ir_add hC.1 hC.2.1 d_md_between_254 ?_
                        refine ld_30 hC hw (by omega) (by omega) d_md_between_255 ?_
                        have b_41 := iv_30 hI (((5 * (S 41 ((8 * k) + i).toNat)) + 4).toNat)
                        refine ir_if_eq (tgt := 264) hC.1 hC.2.1 d_md_between_256 (by decide) ⟨by omega, by omega⟩ (fun c_42 => ?_) (fun c_42 => ?_)
                        · skip
                          refine lv_bipush (v := iI 7) hC.1 hC.2.1 d_md_between_264 (by decide +kernel) ?_
                          refine lv_goto (tgt := 270) hC.1 hC.2.1 d_md_between_266 (by decide) ?_
                          exact rt_R hC hr hlk (by unfold mBt; first | (rw [if_pos (by omega)]; done) | (rw [if_neg (by omega), if_pos (by omega)]; done) | (rw [if_neg (by omega), if_neg (by omega), if_pos (by omega)]; first | (rw [if_pos (by omega)]; done) | (rw [if_neg (by omega)]; done)) | (rw [if_neg (by omega), if_neg (by omega), if_neg (by omega)]; first | (rw [if_pos (by omega)]; done) | (rw [if_neg (by omega)]; done))) d_md_between_270
                        · skip
                          refine lv_iload hC.1 hC.2.1 d_md_between_259 (lv_at hl 1 rfl) ?_
                          refine ir_if_eq (tgt := 269) hC.1 hC.2.1 d_md_between_261 (by decide) (by decide) (fun c_43 => ?_) (fun c_43 => ?_)
                          · skip
                            refine lv_iconst (v := iI 0) hC.1 hC.2.1 d_md_between_269 rfl ?_
                            exact rt_R hC hr hlk (by unfold mBt; first | (rw [if_pos (by omega)]; done) | (rw [if_neg (by omega), if_pos (by omega)]; done) | (rw [if_neg (by omega), if_neg (by omega), if_pos (by omega)]; first | (rw [if_pos (by omega)]; done) | (rw [if_neg (by omega)]; done)) | (rw [if_neg (by omega), if_neg (by omega), if_neg (by omega)]; first | (rw [if_pos (by omega)]; done) | (rw [if_neg (by omega)]; done))) d_md_between_270
                          · exact absurd c_43 (by decide)
                    · skip
                      refine lv_iload hC.1 hC.2.1 d_md_between_226 (lv_at hl 1 rfl) ?_
                      refine lv_iload hC.1 hC.2.1 d_md_between_228 (lv_at hl 3 rfl) ?_
                      refine ir_ge (tgt := 237) hC.1 hC.2.1 d_md_between_230 (by decide) ⟨by omega, by omega⟩ ⟨by omega, by omega⟩ (fun c_44 => ?_) (fun c_44 => ?_)
                      · skip
                        refine lv_iconst (v := iI 0) hC.1 hC.2.1 d_md_between_237 rfl ?_
                        refine lv_istore (lv' := [(11, .int (iI (0))), (10, .int (iI (0))), (9, .int (iI (mLv S r j))), (8, .int (iI (mEn S r j.toNat))), (7, .int (iI (mLv S k i))), (6, .int (iI (mEn S k i.toNat))), (5, .int (iI (S 41 ((8 * k) + i).toNat))), (0, .ref (G.2.1 25)), (1, .int (iI (k))), (2, .int (iI (i))), (3, .int (iI (r))), (4, .int (iI (j)))]) hC.1 hC.2.1 d_md_between_238 hl (by decide) rfl (fun ls hl => ?_)
                        refine lv_iload hC.1 hC.2.1 d_md_between_240 (lv_at hl 0 rfl) ?_
                        refine ir_if_ne (tgt := 269) hC.1 hC.2.1 d_md_between_242 (by decide) (by decide) (fun c_45 => ?_) (fun c_45 => ?_)
                        · exact absurd c_45 (by decide)
                        · skip
                          refine lv_aload_n hC.1 hC.2.1 d_md_between_245 rfl (lv_at hl 7 rfl) ?_
                          refine gf_md_22 hC hw d_md_between_246 ?_
                          refine lv_iconst (v := iI 5) hC.1 hC.2.1 d_md_between_249 rfl ?_
                          refine lv_iload hC.1 hC.2.1 d_md_between_250 (lv_at hl 6 rfl) ?_
                          refine ir_mul hC.1 hC.2.1 d_md_between_252 ?_
                          refine lv_iconst (v := iI 4) hC.1 hC.2.1 d_md_between_253 rfl ?_
                          refine ir_add hC.1 hC.2.1 d_md_between_254 ?_
                          refine ld_30 hC hw (by omega) (by omega) d_md_between_255 ?_
                          have b_46 := iv_30 hI (((5 * (S 41 ((8 * k) + i).toNat)) + 4).toNat)
                          refine ir_if_eq (tgt := 264) hC.1 hC.2.1 d_md_between_256 (by decide) ⟨by omega, by omega⟩ (fun c_47 => ?_) (fun c_47 => ?_)
                          · skip
                            refine lv_bipush (v := iI 7) hC.1 hC.2.1 d_md_between_264 (by decide +kernel) ?_
                            refine lv_goto (tgt := 270) hC.1 hC.2.1 d_md_between_266 (by decide) ?_
                            exact rt_R hC hr hlk (by unfold mBt; first | (rw [if_pos (by omega)]; done) | (rw [if_neg (by omega), if_pos (by omega)]; done) | (rw [if_neg (by omega), if_neg (by omega), if_pos (by omega)]; first | (rw [if_pos (by omega)]; done) | (rw [if_neg (by omega)]; done)) | (rw [if_neg (by omega), if_neg (by omega), if_neg (by omega)]; first | (rw [if_pos (by omega)]; done) | (rw [if_neg (by omega)]; done))) d_md_between_270
                          · skip
                            refine lv_iload hC.1 hC.2.1 d_md_between_259 (lv_at hl 1 rfl) ?_
                            refine ir_if_eq (tgt := 269) hC.1 hC.2.1 d_md_between_261 (by decide) (by decide) (fun c_48 => ?_) (fun c_48 => ?_)
                            · skip
                              refine lv_iconst (v := iI 0) hC.1 hC.2.1 d_md_between_269 rfl ?_
                              exact rt_R hC hr hlk (by unfold mBt; first | (rw [if_pos (by omega)]; done) | (rw [if_neg (by omega), if_pos (by omega)]; done) | (rw [if_neg (by omega), if_neg (by omega), if_pos (by omega)]; first | (rw [if_pos (by omega)]; done) | (rw [if_neg (by omega)]; done)) | (rw [if_neg (by omega), if_neg (by omega), if_neg (by omega)]; first | (rw [if_pos (by omega)]; done) | (rw [if_neg (by omega)]; done))) d_md_between_270
                            · exact absurd c_48 (by decide)
                      · skip
                        refine lv_iconst (v := iI 1) hC.1 hC.2.1 d_md_between_233 rfl ?_
                        refine lv_goto (tgt := 238) hC.1 hC.2.1 d_md_between_234 (by decide) ?_
                        refine lv_istore (lv' := [(11, .int (iI (1))), (10, .int (iI (0))), (9, .int (iI (mLv S r j))), (8, .int (iI (mEn S r j.toNat))), (7, .int (iI (mLv S k i))), (6, .int (iI (mEn S k i.toNat))), (5, .int (iI (S 41 ((8 * k) + i).toNat))), (0, .ref (G.2.1 25)), (1, .int (iI (k))), (2, .int (iI (i))), (3, .int (iI (r))), (4, .int (iI (j)))]) hC.1 hC.2.1 d_md_between_238 hl (by decide) rfl (fun ls hl => ?_)
                        refine lv_iload hC.1 hC.2.1 d_md_between_240 (lv_at hl 0 rfl) ?_
                        refine ir_if_ne (tgt := 269) hC.1 hC.2.1 d_md_between_242 (by decide) (by decide) (fun c_49 => ?_) (fun c_49 => ?_)
                        · skip
                          refine lv_iconst (v := iI 0) hC.1 hC.2.1 d_md_between_269 rfl ?_
                          exact rt_R hC hr hlk (by unfold mBt; first | (rw [if_pos (by omega)]; done) | (rw [if_neg (by omega), if_pos (by omega)]; done) | (rw [if_neg (by omega), if_neg (by omega), if_pos (by omega)]; first | (rw [if_pos (by omega)]; done) | (rw [if_neg (by omega)]; done)) | (rw [if_neg (by omega), if_neg (by omega), if_neg (by omega)]; first | (rw [if_pos (by omega)]; done) | (rw [if_neg (by omega)]; done))) d_md_between_270
                        · exact absurd c_49 (by decide)
              · skip
                refine lv_aload_n hC.1 hC.2.1 d_md_between_178 rfl (lv_at hl 6 rfl) ?_
                refine gf_md_22 hC hw d_md_between_179 ?_
                refine lv_iconst (v := iI 5) hC.1 hC.2.1 d_md_between_182 rfl ?_
                refine lv_iload hC.1 hC.2.1 d_md_between_183 (lv_at hl 5 rfl) ?_
                refine ir_mul hC.1 hC.2.1 d_md_between_185 ?_
                refine lv_iconst (v := iI 3) hC.1 hC.2.1 d_md_between_186 rfl ?_
                refine ir_add hC.1 hC.2.1 d_md_between_187 ?_
                refine ld_30 hC hw (by omega) (by omega) d_md_between_188 ?_
                have b_50 := iv_30 hI (((5 * (S 41 ((8 * k) + i).toNat)) + 3).toNat)
                refine lv_iconst (v := iI 1) hC.1 hC.2.1 d_md_between_189 rfl ?_
                refine ir_eq (tgt := 198) hC.1 hC.2.1 d_md_between_190 (by decide) ⟨by omega, by omega⟩ (by decide) (fun c_51 => ?_) (fun c_51 => ?_)
                · skip
                  refine lv_bipush (v := iI 6) hC.1 hC.2.1 d_md_between_198 (by decide +kernel) ?_
                  refine lv_goto (tgt := 204) hC.1 hC.2.1 d_md_between_200 (by decide) ?_
                  exact rt_R hC hr hlk (by unfold mBt; first | (rw [if_pos (by omega)]; done) | (rw [if_neg (by omega), if_pos (by omega)]; done) | (rw [if_neg (by omega), if_neg (by omega), if_pos (by omega)]; first | (rw [if_pos (by omega)]; done) | (rw [if_neg (by omega)]; done)) | (rw [if_neg (by omega), if_neg (by omega), if_neg (by omega)]; first | (rw [if_pos (by omega)]; done) | (rw [if_neg (by omega)]; done))) d_md_between_204
                · skip
                  refine lv_iload hC.1 hC.2.1 d_md_between_193 (lv_at hl 0 rfl) ?_
                  refine ir_if_eq (tgt := 203) hC.1 hC.2.1 d_md_between_195 (by decide) (by decide) (fun c_52 => ?_) (fun c_52 => ?_)
                  · skip
                    refine lv_iconst (v := iI 0) hC.1 hC.2.1 d_md_between_203 rfl ?_
                    exact rt_R hC hr hlk (by unfold mBt; first | (rw [if_pos (by omega)]; done) | (rw [if_neg (by omega), if_pos (by omega)]; done) | (rw [if_neg (by omega), if_neg (by omega), if_pos (by omega)]; first | (rw [if_pos (by omega)]; done) | (rw [if_neg (by omega)]; done)) | (rw [if_neg (by omega), if_neg (by omega), if_neg (by omega)]; first | (rw [if_pos (by omega)]; done) | (rw [if_neg (by omega)]; done))) d_md_between_204
                  · exact absurd c_52 (by decide)
            · skip
              refine lv_iconst (v := iI 1) hC.1 hC.2.1 d_md_between_145 rfl ?_
              refine lv_goto (tgt := 150) hC.1 hC.2.1 d_md_between_146 (by decide) ?_
              refine lv_istore (lv' := [(10, .int (iI (1))), (9, .int (iI (mLv S r j))), (8, .int (iI (mEn S r j.toNat))), (7, .int (iI (mLv S k i))), (6, .int (iI (mEn S k i.toNat))), (5, .int (iI (S 41 ((8 * k) + i).toNat))), (0, .ref (G.2.1 25)), (1, .int (iI (k))), (2, .int (iI (i))), (3, .int (iI (r))), (4, .int (iI (j)))]) hC.1 hC.2.1 d_md_between_150 hl (by decide) rfl (fun ls hl => ?_)
              refine lv_aload_n hC.1 hC.2.1 d_md_between_152 rfl (lv_at hl 6 rfl) ?_
              refine gf_md_59 hC hw d_md_between_153 ?_
              refine lv_bipush (v := iI 8) hC.1 hC.2.1 d_md_between_156 (by decide +kernel) ?_
              refine lv_iload_n hC.1 hC.2.1 d_md_between_158 rfl (lv_at hl 7 rfl) ?_
              refine ir_mul hC.1 hC.2.1 d_md_between_159 ?_
              refine lv_iload_n hC.1 hC.2.1 d_md_between_160 rfl (lv_at hl 8 rfl) ?_
              refine ir_add hC.1 hC.2.1 d_md_between_161 ?_
              refine ld_42 hC hw (by omega) (by omega) d_md_between_162 ?_
              have b_53 := iv_42 hI (((8 * k) + i).toNat)
              refine lv_aload_n hC.1 hC.2.1 d_md_between_163 rfl (lv_at hl 6 rfl) ?_
              refine gf_md_59 hC hw d_md_between_164 ?_
              refine lv_bipush (v := iI 8) hC.1 hC.2.1 d_md_between_167 (by decide +kernel) ?_
              refine lv_iload_n hC.1 hC.2.1 d_md_between_169 rfl (lv_at hl 9 rfl) ?_
              refine ir_mul hC.1 hC.2.1 d_md_between_170 ?_
              refine lv_iload hC.1 hC.2.1 d_md_between_171 (lv_at hl 10 rfl) ?_
              refine ir_add hC.1 hC.2.1 d_md_between_173 ?_
              refine ld_42 hC hw (by omega) (by omega) d_md_between_174 ?_
              have b_54 := iv_42 hI (((8 * r) + j).toNat)
              refine ir_eq (tgt := 205) hC.1 hC.2.1 d_md_between_175 (by decide) ⟨by omega, by omega⟩ ⟨by omega, by omega⟩ (fun c_55 => ?_) (fun c_55 => ?_)
              · skip
                refine lv_iload hC.1 hC.2.1 d_md_between_205 (lv_at hl 4 rfl) ?_
                refine lv_iload hC.1 hC.2.1 d_md_between_207 (lv_at hl 2 rfl) ?_
                refine ir_ge (tgt := 219) hC.1 hC.2.1 d_md_between_209 (by decide) ⟨by omega, by omega⟩ ⟨by omega, by omega⟩ (fun c_56 => ?_) (fun c_56 => ?_)
                · skip
                  refine lv_iload hC.1 hC.2.1 d_md_between_219 (lv_at hl 2 rfl) ?_
                  refine lv_iload hC.1 hC.2.1 d_md_between_221 (lv_at hl 4 rfl) ?_
                  refine ir_ge (tgt := 237) hC.1 hC.2.1 d_md_between_223 (by decide) ⟨by omega, by omega⟩ ⟨by omega, by omega⟩ (fun c_57 => ?_) (fun c_57 => ?_)
                  · skip
                    refine lv_iconst (v := iI 0) hC.1 hC.2.1 d_md_between_237 rfl ?_
                    refine lv_istore (lv' := [(11, .int (iI (0))), (10, .int (iI (1))), (9, .int (iI (mLv S r j))), (8, .int (iI (mEn S r j.toNat))), (7, .int (iI (mLv S k i))), (6, .int (iI (mEn S k i.toNat))), (5, .int (iI (S 41 ((8 * k) + i).toNat))), (0, .ref (G.2.1 25)), (1, .int (iI (k))), (2, .int (iI (i))), (3, .int (iI (r))), (4, .int (iI (j)))]) hC.1 hC.2.1 d_md_between_238 hl (by decide) rfl (fun ls hl => ?_)
                    refine lv_iload hC.1 hC.2.1 d_md_between_240 (lv_at hl 0 rfl) ?_
                    refine ir_if_ne (tgt := 269) hC.1 hC.2.1 d_md_between_242 (by decide) (by decide) (fun c_58 => ?_) (fun c_58 => ?_)
                    · exact absurd c_58 (by decide)
                    · skip
                      refine lv_aload_n hC.1 hC.2.1 d_md_between_245 rfl (lv_at hl 7 rfl) ?_
                      refine gf_md_22 hC hw d_md_between_246 ?_
                      refine lv_iconst (v := iI 5) hC.1 hC.2.1 d_md_between_249 rfl ?_
                      refine lv_iload hC.1 hC.2.1 d_md_between_250 (lv_at hl 6 rfl) ?_
                      refine ir_mul hC.1 hC.2.1 d_md_between_252 ?_
                      refine lv_iconst (v := iI 4) hC.1 hC.2.1 d_md_between_253 rfl ?_
                      refine ir_add hC.1 hC.2.1 d_md_between_254 ?_
                      refine ld_30 hC hw (by omega) (by omega) d_md_between_255 ?_
                      have b_59 := iv_30 hI (((5 * (S 41 ((8 * k) + i).toNat)) + 4).toNat)
                      refine ir_if_eq (tgt := 264) hC.1 hC.2.1 d_md_between_256 (by decide) ⟨by omega, by omega⟩ (fun c_60 => ?_) (fun c_60 => ?_)
                      · skip
                        refine lv_bipush (v := iI 7) hC.1 hC.2.1 d_md_between_264 (by decide +kernel) ?_
                        refine lv_goto (tgt := 270) hC.1 hC.2.1 d_md_between_266 (by decide) ?_
                        exact rt_R hC hr hlk (by unfold mBt; first | (rw [if_pos (by omega)]; done) | (rw [if_neg (by omega), if_pos (by omega)]; done) | (rw [if_neg (by omega), if_neg (by omega), if_pos (by omega)]; first | (rw [if_pos (by omega)]; done) | (rw [if_neg (by omega)]; done)) | (rw [if_neg (by omega), if_neg (by omega), if_neg (by omega)]; first | (rw [if_pos (by omega)]; done) | (rw [if_neg (by omega)]; done))) d_md_between_270
                      · skip
                        refine lv_iload hC.1 hC.2.1 d_md_between_259 (lv_at hl 1 rfl) ?_
                        refine ir_if_eq (tgt := 269) hC.1 hC.2.1 d_md_between_261 (by decide) (by decide) (fun c_61 => ?_) (fun c_61 => ?_)
                        · exact absurd c_61 (by decide)
                        · skip
                          refine lv_bipush (v := iI 7) hC.1 hC.2.1 d_md_between_264 (by decide +kernel) ?_
                          refine lv_goto (tgt := 270) hC.1 hC.2.1 d_md_between_266 (by decide) ?_
                          exact rt_R hC hr hlk (by unfold mBt; first | (rw [if_pos (by omega)]; done) | (rw [if_neg (by omega), if_pos (by omega)]; done) | (rw [if_neg (by omega), if_neg (by omega), if_pos (by omega)]; first | (rw [if_pos (by omega)]; done) | (rw [if_neg (by omega)]; done)) | (rw [if_neg (by omega), if_neg (by omega), if_neg (by omega)]; first | (rw [if_pos (by omega)]; done) | (rw [if_neg (by omega)]; done))) d_md_between_270
                  · skip
                    refine lv_iload hC.1 hC.2.1 d_md_between_226 (lv_at hl 1 rfl) ?_
                    refine lv_iload hC.1 hC.2.1 d_md_between_228 (lv_at hl 3 rfl) ?_
                    refine ir_ge (tgt := 237) hC.1 hC.2.1 d_md_between_230 (by decide) ⟨by omega, by omega⟩ ⟨by omega, by omega⟩ (fun c_62 => ?_) (fun c_62 => ?_)
                    · skip
                      refine lv_iconst (v := iI 0) hC.1 hC.2.1 d_md_between_237 rfl ?_
                      refine lv_istore (lv' := [(11, .int (iI (0))), (10, .int (iI (1))), (9, .int (iI (mLv S r j))), (8, .int (iI (mEn S r j.toNat))), (7, .int (iI (mLv S k i))), (6, .int (iI (mEn S k i.toNat))), (5, .int (iI (S 41 ((8 * k) + i).toNat))), (0, .ref (G.2.1 25)), (1, .int (iI (k))), (2, .int (iI (i))), (3, .int (iI (r))), (4, .int (iI (j)))]) hC.1 hC.2.1 d_md_between_238 hl (by decide) rfl (fun ls hl => ?_)
                      refine lv_iload hC.1 hC.2.1 d_md_between_240 (lv_at hl 0 rfl) ?_
                      refine ir_if_ne (tgt := 269) hC.1 hC.2.1 d_md_between_242 (by decide) (by decide) (fun c_63 => ?_) (fun c_63 => ?_)
                      · exact absurd c_63 (by decide)
                      · skip
                        refine lv_aload_n hC.1 hC.2.1 d_md_between_245 rfl (lv_at hl 7 rfl) ?_
                        refine gf_md_22 hC hw d_md_between_246 ?_
                        refine lv_iconst (v := iI 5) hC.1 hC.2.1 d_md_between_249 rfl ?_
                        refine lv_iload hC.1 hC.2.1 d_md_between_250 (lv_at hl 6 rfl) ?_
                        refine ir_mul hC.1 hC.2.1 d_md_between_252 ?_
                        refine lv_iconst (v := iI 4) hC.1 hC.2.1 d_md_between_253 rfl ?_
                        refine ir_add hC.1 hC.2.1 d_md_between_254 ?_
                        refine ld_30 hC hw (by omega) (by omega) d_md_between_255 ?_
                        have b_64 := iv_30 hI (((5 * (S 41 ((8 * k) + i).toNat)) + 4).toNat)
                        refine ir_if_eq (tgt := 264) hC.1 hC.2.1 d_md_between_256 (by decide) ⟨by omega, by omega⟩ (fun c_65 => ?_) (fun c_65 => ?_)
                        · skip
                          refine lv_bipush (v := iI 7) hC.1 hC.2.1 d_md_between_264 (by decide +kernel) ?_
                          refine lv_goto (tgt := 270) hC.1 hC.2.1 d_md_between_266 (by decide) ?_
                          exact rt_R hC hr hlk (by unfold mBt; first | (rw [if_pos (by omega)]; done) | (rw [if_neg (by omega), if_pos (by omega)]; done) | (rw [if_neg (by omega), if_neg (by omega), if_pos (by omega)]; first | (rw [if_pos (by omega)]; done) | (rw [if_neg (by omega)]; done)) | (rw [if_neg (by omega), if_neg (by omega), if_neg (by omega)]; first | (rw [if_pos (by omega)]; done) | (rw [if_neg (by omega)]; done))) d_md_between_270
                        · skip
                          refine lv_iload hC.1 hC.2.1 d_md_between_259 (lv_at hl 1 rfl) ?_
                          refine ir_if_eq (tgt := 269) hC.1 hC.2.1 d_md_between_261 (by decide) (by decide) (fun c_66 => ?_) (fun c_66 => ?_)
                          · exact absurd c_66 (by decide)
                          · skip
                            refine lv_bipush (v := iI 7) hC.1 hC.2.1 d_md_between_264 (by decide +kernel) ?_
                            refine lv_goto (tgt := 270) hC.1 hC.2.1 d_md_between_266 (by decide) ?_
                            exact rt_R hC hr hlk (by unfold mBt; first | (rw [if_pos (by omega)]; done) | (rw [if_neg (by omega), if_pos (by omega)]; done) | (rw [if_neg (by omega), if_neg (by omega), if_pos (by omega)]; first | (rw [if_pos (by omega)]; done) | (rw [if_neg (by omega)]; done)) | (rw [if_neg (by omega), if_neg (by omega), if_neg (by omega)]; first | (rw [if_pos (by omega)]; done) | (rw [if_neg (by omega)]; done))) d_md_between_270
                    · skip
                      refine lv_iconst (v := iI 1) hC.1 hC.2.1 d_md_between_233 rfl ?_
                      refine lv_goto (tgt := 238) hC.1 hC.2.1 d_md_between_234 (by decide) ?_
                      refine lv_istore (lv' := [(11, .int (iI (1))), (10, .int (iI (1))), (9, .int (iI (mLv S r j))), (8, .int (iI (mEn S r j.toNat))), (7, .int (iI (mLv S k i))), (6, .int (iI (mEn S k i.toNat))), (5, .int (iI (S 41 ((8 * k) + i).toNat))), (0, .ref (G.2.1 25)), (1, .int (iI (k))), (2, .int (iI (i))), (3, .int (iI (r))), (4, .int (iI (j)))]) hC.1 hC.2.1 d_md_between_238 hl (by decide) rfl (fun ls hl => ?_)
                      refine lv_iload hC.1 hC.2.1 d_md_between_240 (lv_at hl 0 rfl) ?_
                      refine ir_if_ne (tgt := 269) hC.1 hC.2.1 d_md_between_242 (by decide) (by decide) (fun c_67 => ?_) (fun c_67 => ?_)
                      · skip
                        refine lv_iconst (v := iI 0) hC.1 hC.2.1 d_md_between_269 rfl ?_
                        exact rt_R hC hr hlk (by unfold mBt; first | (rw [if_pos (by omega)]; done) | (rw [if_neg (by omega), if_pos (by omega)]; done) | (rw [if_neg (by omega), if_neg (by omega), if_pos (by omega)]; first | (rw [if_pos (by omega)]; done) | (rw [if_neg (by omega)]; done)) | (rw [if_neg (by omega), if_neg (by omega), if_neg (by omega)]; first | (rw [if_pos (by omega)]; done) | (rw [if_neg (by omega)]; done))) d_md_between_270
                      · exact absurd c_67 (by decide)
                · skip
                  refine lv_iload hC.1 hC.2.1 d_md_between_212 (lv_at hl 3 rfl) ?_
                  refine lv_iload hC.1 hC.2.1 d_md_between_214 (lv_at hl 1 rfl) ?_
                  refine ir_lt (tgt := 233) hC.1 hC.2.1 d_md_between_216 (by decide) ⟨by omega, by omega⟩ ⟨by omega, by omega⟩ (fun c_68 => ?_) (fun c_68 => ?_)
                  · skip
                    refine lv_iconst (v := iI 1) hC.1 hC.2.1 d_md_between_233 rfl ?_
                    refine lv_goto (tgt := 238) hC.1 hC.2.1 d_md_between_234 (by decide) ?_
                    refine lv_istore (lv' := [(11, .int (iI (1))), (10, .int (iI (1))), (9, .int (iI (mLv S r j))), (8, .int (iI (mEn S r j.toNat))), (7, .int (iI (mLv S k i))), (6, .int (iI (mEn S k i.toNat))), (5, .int (iI (S 41 ((8 * k) + i).toNat))), (0, .ref (G.2.1 25)), (1, .int (iI (k))), (2, .int (iI (i))), (3, .int (iI (r))), (4, .int (iI (j)))]) hC.1 hC.2.1 d_md_between_238 hl (by decide) rfl (fun ls hl => ?_)
                    refine lv_iload hC.1 hC.2.1 d_md_between_240 (lv_at hl 0 rfl) ?_
                    refine ir_if_ne (tgt := 269) hC.1 hC.2.1 d_md_between_242 (by decide) (by decide) (fun c_69 => ?_) (fun c_69 => ?_)
                    · skip
                      refine lv_iconst (v := iI 0) hC.1 hC.2.1 d_md_between_269 rfl ?_
                      exact rt_R hC hr hlk (by unfold mBt; first | (rw [if_pos (by omega)]; done) | (rw [if_neg (by omega), if_pos (by omega)]; done) | (rw [if_neg (by omega), if_neg (by omega), if_pos (by omega)]; first | (rw [if_pos (by omega)]; done) | (rw [if_neg (by omega)]; done)) | (rw [if_neg (by omega), if_neg (by omega), if_neg (by omega)]; first | (rw [if_pos (by omega)]; done) | (rw [if_neg (by omega)]; done))) d_md_between_270
                    · exact absurd c_69 (by decide)
                  · skip
                    refine lv_iload hC.1 hC.2.1 d_md_between_219 (lv_at hl 2 rfl) ?_
                    refine lv_iload hC.1 hC.2.1 d_md_between_221 (lv_at hl 4 rfl) ?_
                    refine ir_ge (tgt := 237) hC.1 hC.2.1 d_md_between_223 (by decide) ⟨by omega, by omega⟩ ⟨by omega, by omega⟩ (fun c_70 => ?_) (fun c_70 => ?_)
                    · skip
                      refine lv_iconst (v := iI 0) hC.1 hC.2.1 d_md_between_237 rfl ?_
                      refine lv_istore (lv' := [(11, .int (iI (0))), (10, .int (iI (1))), (9, .int (iI (mLv S r j))), (8, .int (iI (mEn S r j.toNat))), (7, .int (iI (mLv S k i))), (6, .int (iI (mEn S k i.toNat))), (5, .int (iI (S 41 ((8 * k) + i).toNat))), (0, .ref (G.2.1 25)), (1, .int (iI (k))), (2, .int (iI (i))), (3, .int (iI (r))), (4, .int (iI (j)))]) hC.1 hC.2.1 d_md_between_238 hl (by decide) rfl (fun ls hl => ?_)
                      refine lv_iload hC.1 hC.2.1 d_md_between_240 (lv_at hl 0 rfl) ?_
                      refine ir_if_ne (tgt := 269) hC.1 hC.2.1 d_md_between_242 (by decide) (by decide) (fun c_71 => ?_) (fun c_71 => ?_)
                      · exact absurd c_71 (by decide)
                      · skip
                        refine lv_aload_n hC.1 hC.2.1 d_md_between_245 rfl (lv_at hl 7 rfl) ?_
                        refine gf_md_22 hC hw d_md_between_246 ?_
                        refine lv_iconst (v := iI 5) hC.1 hC.2.1 d_md_between_249 rfl ?_
                        refine lv_iload hC.1 hC.2.1 d_md_between_250 (lv_at hl 6 rfl) ?_
                        refine ir_mul hC.1 hC.2.1 d_md_between_252 ?_
                        refine lv_iconst (v := iI 4) hC.1 hC.2.1 d_md_between_253 rfl ?_
                        refine ir_add hC.1 hC.2.1 d_md_between_254 ?_
                        refine ld_30 hC hw (by omega) (by omega) d_md_between_255 ?_
                        have b_72 := iv_30 hI (((5 * (S 41 ((8 * k) + i).toNat)) + 4).toNat)
                        refine ir_if_eq (tgt := 264) hC.1 hC.2.1 d_md_between_256 (by decide) ⟨by omega, by omega⟩ (fun c_73 => ?_) (fun c_73 => ?_)
                        · skip
                          refine lv_bipush (v := iI 7) hC.1 hC.2.1 d_md_between_264 (by decide +kernel) ?_
                          refine lv_goto (tgt := 270) hC.1 hC.2.1 d_md_between_266 (by decide) ?_
                          exact rt_R hC hr hlk (by unfold mBt; first | (rw [if_pos (by omega)]; done) | (rw [if_neg (by omega), if_pos (by omega)]; done) | (rw [if_neg (by omega), if_neg (by omega), if_pos (by omega)]; first | (rw [if_pos (by omega)]; done) | (rw [if_neg (by omega)]; done)) | (rw [if_neg (by omega), if_neg (by omega), if_neg (by omega)]; first | (rw [if_pos (by omega)]; done) | (rw [if_neg (by omega)]; done))) d_md_between_270
                        · skip
                          refine lv_iload hC.1 hC.2.1 d_md_between_259 (lv_at hl 1 rfl) ?_
                          refine ir_if_eq (tgt := 269) hC.1 hC.2.1 d_md_between_261 (by decide) (by decide) (fun c_74 => ?_) (fun c_74 => ?_)
                          · exact absurd c_74 (by decide)
                          · skip
                            refine lv_bipush (v := iI 7) hC.1 hC.2.1 d_md_between_264 (by decide +kernel) ?_
                            refine lv_goto (tgt := 270) hC.1 hC.2.1 d_md_between_266 (by decide) ?_
                            exact rt_R hC hr hlk (by unfold mBt; first | (rw [if_pos (by omega)]; done) | (rw [if_neg (by omega), if_pos (by omega)]; done) | (rw [if_neg (by omega), if_neg (by omega), if_pos (by omega)]; first | (rw [if_pos (by omega)]; done) | (rw [if_neg (by omega)]; done)) | (rw [if_neg (by omega), if_neg (by omega), if_neg (by omega)]; first | (rw [if_pos (by omega)]; done) | (rw [if_neg (by omega)]; done))) d_md_between_270
                    · skip
                      refine lv_iload hC.1 hC.2.1 d_md_between_226 (lv_at hl 1 rfl) ?_
                      refine lv_iload hC.1 hC.2.1 d_md_between_228 (lv_at hl 3 rfl) ?_
                      refine ir_ge (tgt := 237) hC.1 hC.2.1 d_md_between_230 (by decide) ⟨by omega, by omega⟩ ⟨by omega, by omega⟩ (fun c_75 => ?_) (fun c_75 => ?_)
                      · skip
                        refine lv_iconst (v := iI 0) hC.1 hC.2.1 d_md_between_237 rfl ?_
                        refine lv_istore (lv' := [(11, .int (iI (0))), (10, .int (iI (1))), (9, .int (iI (mLv S r j))), (8, .int (iI (mEn S r j.toNat))), (7, .int (iI (mLv S k i))), (6, .int (iI (mEn S k i.toNat))), (5, .int (iI (S 41 ((8 * k) + i).toNat))), (0, .ref (G.2.1 25)), (1, .int (iI (k))), (2, .int (iI (i))), (3, .int (iI (r))), (4, .int (iI (j)))]) hC.1 hC.2.1 d_md_between_238 hl (by decide) rfl (fun ls hl => ?_)
                        refine lv_iload hC.1 hC.2.1 d_md_between_240 (lv_at hl 0 rfl) ?_
                        refine ir_if_ne (tgt := 269) hC.1 hC.2.1 d_md_between_242 (by decide) (by decide) (fun c_76 => ?_) (fun c_76 => ?_)
                        · exact absurd c_76 (by decide)
                        · skip
                          refine lv_aload_n hC.1 hC.2.1 d_md_between_245 rfl (lv_at hl 7 rfl) ?_
                          refine gf_md_22 hC hw d_md_between_246 ?_
                          refine lv_iconst (v := iI 5) hC.1 hC.2.1 d_md_between_249 rfl ?_
                          refine lv_iload hC.1 hC.2.1 d_md_between_250 (lv_at hl 6 rfl) ?_
                          refine ir_mul hC.1 hC.2.1 d_md_between_252 ?_
                          refine lv_iconst (v := iI 4) hC.1 hC.2.1 d_md_between_253 rfl ?_
                          refine ir_add hC.1 hC.2.1 d_md_between_254 ?_
                          refine ld_30 hC hw (by omega) (by omega) d_md_between_255 ?_
                          have b_77 := iv_30 hI (((5 * (S 41 ((8 * k) + i).toNat)) + 4).toNat)
                          refine ir_if_eq (tgt := 264) hC.1 hC.2.1 d_md_between_256 (by decide) ⟨by omega, by omega⟩ (fun c_78 => ?_) (fun c_78 => ?_)
                          · skip
                            refine lv_bipush (v := iI 7) hC.1 hC.2.1 d_md_between_264 (by decide +kernel) ?_
                            refine lv_goto (tgt := 270) hC.1 hC.2.1 d_md_between_266 (by decide) ?_
                            exact rt_R hC hr hlk (by unfold mBt; first | (rw [if_pos (by omega)]; done) | (rw [if_neg (by omega), if_pos (by omega)]; done) | (rw [if_neg (by omega), if_neg (by omega), if_pos (by omega)]; first | (rw [if_pos (by omega)]; done) | (rw [if_neg (by omega)]; done)) | (rw [if_neg (by omega), if_neg (by omega), if_neg (by omega)]; first | (rw [if_pos (by omega)]; done) | (rw [if_neg (by omega)]; done))) d_md_between_270
                          · skip
                            refine lv_iload hC.1 hC.2.1 d_md_between_259 (lv_at hl 1 rfl) ?_
                            refine ir_if_eq (tgt := 269) hC.1 hC.2.1 d_md_between_261 (by decide) (by decide) (fun c_79 => ?_) (fun c_79 => ?_)
                            · exact absurd c_79 (by decide)
                            · skip
                              refine lv_bipush (v := iI 7) hC.1 hC.2.1 d_md_between_264 (by decide +kernel) ?_
                              refine lv_goto (tgt := 270) hC.1 hC.2.1 d_md_between_266 (by decide) ?_
                              exact rt_R hC hr hlk (by unfold mBt; first | (rw [if_pos (by omega)]; done) | (rw [if_neg (by omega), if_pos (by omega)]; done) | (rw [if_neg (by omega), if_neg (by omega), if_pos (by omega)]; first | (rw [if_pos (by omega)]; done) | (rw [if_neg (by omega)]; done)) | (rw [if_neg (by omega), if_neg (by omega), if_neg (by omega)]; first | (rw [if_pos (by omega)]; done) | (rw [if_neg (by omega)]; done))) d_md_between_270
                      · skip
                        refine lv_iconst (v := iI 1) hC.1 hC.2.1 d_md_between_233 rfl ?_
                        refine lv_goto (tgt := 238) hC.1 hC.2.1 d_md_between_234 (by decide) ?_
                        refine lv_istore (lv' := [(11, .int (iI (1))), (10, .int (iI (1))), (9, .int (iI (mLv S r j))), (8, .int (iI (mEn S r j.toNat))), (7, .int (iI (mLv S k i))), (6, .int (iI (mEn S k i.toNat))), (5, .int (iI (S 41 ((8 * k) + i).toNat))), (0, .ref (G.2.1 25)), (1, .int (iI (k))), (2, .int (iI (i))), (3, .int (iI (r))), (4, .int (iI (j)))]) hC.1 hC.2.1 d_md_between_238 hl (by decide) rfl (fun ls hl => ?_)
                        refine lv_iload hC.1 hC.2.1 d_md_between_240 (lv_at hl 0 rfl) ?_
                        refine ir_if_ne (tgt := 269) hC.1 hC.2.1 d_md_between_242 (by decide) (by decide) (fun c_80 => ?_) (fun c_80 => ?_)
                        · skip
                          refine lv_iconst (v := iI 0) hC.1 hC.2.1 d_md_between_269 rfl ?_
                          exact rt_R hC hr hlk (by unfold mBt; first | (rw [if_pos (by omega)]; done) | (rw [if_neg (by omega), if_pos (by omega)]; done) | (rw [if_neg (by omega), if_neg (by omega), if_pos (by omega)]; first | (rw [if_pos (by omega)]; done) | (rw [if_neg (by omega)]; done)) | (rw [if_neg (by omega), if_neg (by omega), if_neg (by omega)]; first | (rw [if_pos (by omega)]; done) | (rw [if_neg (by omega)]; done))) d_md_between_270
                        · exact absurd c_80 (by decide)
              · skip
                refine lv_aload_n hC.1 hC.2.1 d_md_between_178 rfl (lv_at hl 6 rfl) ?_
                refine gf_md_22 hC hw d_md_between_179 ?_
                refine lv_iconst (v := iI 5) hC.1 hC.2.1 d_md_between_182 rfl ?_
                refine lv_iload hC.1 hC.2.1 d_md_between_183 (lv_at hl 5 rfl) ?_
                refine ir_mul hC.1 hC.2.1 d_md_between_185 ?_
                refine lv_iconst (v := iI 3) hC.1 hC.2.1 d_md_between_186 rfl ?_
                refine ir_add hC.1 hC.2.1 d_md_between_187 ?_
                refine ld_30 hC hw (by omega) (by omega) d_md_between_188 ?_
                have b_81 := iv_30 hI (((5 * (S 41 ((8 * k) + i).toNat)) + 3).toNat)
                refine lv_iconst (v := iI 1) hC.1 hC.2.1 d_md_between_189 rfl ?_
                refine ir_eq (tgt := 198) hC.1 hC.2.1 d_md_between_190 (by decide) ⟨by omega, by omega⟩ (by decide) (fun c_82 => ?_) (fun c_82 => ?_)
                · skip
                  refine lv_bipush (v := iI 6) hC.1 hC.2.1 d_md_between_198 (by decide +kernel) ?_
                  refine lv_goto (tgt := 204) hC.1 hC.2.1 d_md_between_200 (by decide) ?_
                  exact rt_R hC hr hlk (by unfold mBt; first | (rw [if_pos (by omega)]; done) | (rw [if_neg (by omega), if_pos (by omega)]; done) | (rw [if_neg (by omega), if_neg (by omega), if_pos (by omega)]; first | (rw [if_pos (by omega)]; done) | (rw [if_neg (by omega)]; done)) | (rw [if_neg (by omega), if_neg (by omega), if_neg (by omega)]; first | (rw [if_pos (by omega)]; done) | (rw [if_neg (by omega)]; done))) d_md_between_204
                · skip
                  refine lv_iload hC.1 hC.2.1 d_md_between_193 (lv_at hl 0 rfl) ?_
                  refine ir_if_eq (tgt := 203) hC.1 hC.2.1 d_md_between_195 (by decide) (by decide) (fun c_83 => ?_) (fun c_83 => ?_)
                  · exact absurd c_83 (by decide)
                  · skip
                    refine lv_bipush (v := iI 6) hC.1 hC.2.1 d_md_between_198 (by decide +kernel) ?_
                    refine lv_goto (tgt := 204) hC.1 hC.2.1 d_md_between_200 (by decide) ?_
                    exact rt_R hC hr hlk (by unfold mBt; first | (rw [if_pos (by omega)]; done) | (rw [if_neg (by omega), if_pos (by omega)]; done) | (rw [if_neg (by omega), if_neg (by omega), if_pos (by omega)]; first | (rw [if_pos (by omega)]; done) | (rw [if_neg (by omega)]; done)) | (rw [if_neg (by omega), if_neg (by omega), if_neg (by omega)]; first | (rw [if_pos (by omega)]; done) | (rw [if_neg (by omega)]; done))) d_md_between_204
          · skip
            refine lv_iconst (v := iI 5) hC.1 hC.2.1 d_md_between_110 rfl ?_
            exact rt_R hC hr hlk (by unfold mBt; first | (rw [if_pos (by omega)]; done) | (rw [if_neg (by omega), if_pos (by omega)]; done) | (rw [if_neg (by omega), if_neg (by omega), if_pos (by omega)]; first | (rw [if_pos (by omega)]; done) | (rw [if_neg (by omega)]; done)) | (rw [if_neg (by omega), if_neg (by omega), if_neg (by omega)]; first | (rw [if_pos (by omega)]; done) | (rw [if_neg (by omega)]; done))) d_md_between_111
      · skip
        refine lv_iconst (v := iI 0) hC.1 hC.2.1 d_md_between_78 rfl ?_
        exact rt_R hC hr hlk (by unfold mBt; first | (rw [if_pos (by omega)]; done) | (rw [if_neg (by omega), if_pos (by omega)]; done) | (rw [if_neg (by omega), if_neg (by omega), if_pos (by omega)]; first | (rw [if_pos (by omega)]; done) | (rw [if_neg (by omega)]; done)) | (rw [if_neg (by omega), if_neg (by omega), if_neg (by omega)]; first | (rw [if_pos (by omega)]; done) | (rw [if_neg (by omega)]; done))) d_md_between_79
set_option maxHeartbeats 4000000 in
set_option maxRecDepth 100000 in
theorem c_md_with (l : Launch) (G : Gt) (S : St) (k : Int) (i : Int) (r : Int) (hI : Inv S) (hk : 0 ≤ k ∧ k ≤ 30) (hi : 0 ≤ i ∧ i < 7) (hr2 : 0 ≤ r ∧ r ≤ 30) (hs : 1 ≤ S 35 (S 37 k.toNat).toNat) (hs3 : 0 < S 40 r.toNat → 1 ≤ S 35 (S 37 r.toNat).toNat) : Met l y_md_with [.code y_md_with b_md_with 6 (some .int)] { frames := 4, cells := 0, slots := 0, locals := 99 } (va_Pc [.ref (G.2.1 25), .int (iI (k)), .int (iI (i)), .int (iI (r))] (fun U => wu G S U)) (qR (mWt S k i r (S 40 r.toNat).toNat)) 0 0 (fun _ => False) := by
  refine mt_of (by decide +kernel) (Nat.le_of_ble_eq_true rfl) ?_
  intro p e s m below meth c ls hadm hC hr hlk hex hw hl
  have hC : CallFix p m c b_md_with 6 s _ tws "ChannelRulesModel" := hC
  have hl : lv_has ls 6 [(0, .ref (G.2.1 25)), (1, .int (iI (k))), (2, .int (iI (i))), (3, .int (iI (r)))] := hl
  have i40 := iv_40 hI r.toNat
  refine lv_iconst (v := iI 0) hC.1 hC.2.1 d_md_with_0 rfl ?_
  refine lv_istore (lv' := [(4, .int (iI (0))), (0, .ref (G.2.1 25)), (1, .int (iI (k))), (2, .int (iI (i))), (3, .int (iI (r)))]) hC.1 hC.2.1 d_md_with_1 hl (by decide) rfl (fun ls hl => ?_)
  refine lv_iconst (v := iI 0) hC.1 hC.2.1 d_md_with_3 rfl ?_
  refine lv_istore (lv' := [(5, .int (iI (0))), (4, .int (iI (0))), (0, .ref (G.2.1 25)), (1, .int (iI (k))), (2, .int (iI (i))), (3, .int (iI (r)))]) hC.1 hC.2.1 d_md_with_4 hl (by decide) rfl (fun ls hl => ?_)
  have loop_6 : ∀ (nn : Nat) (n : Nat) (x4 : Int) (x5 : Int), (S 40 r.toNat).toNat - n < nn → x4 = mWt S k i r n → x5 = (n : Int) → (n : Int) ≤ S 40 r.toNat → ∀ (ls : Array Slot), lv_has ls 6 [(5, .int (iI (x5))), (4, .int (iI (x4))), (0, .ref (G.2.1 25)), (1, .int (iI (k))), (2, .int (iI (i))), (3, .int (iI (r)))] → W p l e { frames := 4, cells := 0, slots := 0, locals := 99 } s m ([.ref (G.2.1 25), .int (iI (k)), .int (iI (i)), .int (iI (r))] : List Value).toArray below meth c s.heap [] 0 0 (MQ below (qR (mWt S k i r (S 40 r.toNat).toNat)) ([.ref (G.2.1 25), .int (iI (k)), .int (iI (i)), .int (iI (r))] : List Value).toArray s 0 0 (fun _ => False)) (F0 m 6 ls []) := by
    intro nn
    induction nn with
    | zero => intros; omega
    | succ nn ih_6 =>
      intro n x4 x5 hms_6 hx4 hx5 hv0 ls hl
      have bk := mWt_b S k i r n
      have hs2 := fun z : 0 < S 40 r.toNat => hs3 z
      refine lv_iload hC.1 hC.2.1 d_md_with_6 (lv_at hl 0 rfl) ?_
      refine lv_aload_n hC.1 hC.2.1 d_md_with_8 rfl (lv_at hl 2 rfl) ?_
      refine gf_md_53 hC hw d_md_with_9 ?_
      refine lv_iload_n hC.1 hC.2.1 d_md_with_12 rfl (lv_at hl 5 rfl) ?_
      refine ld_40 hC hw (by omega) (by omega) d_md_with_13 ?_
      have b_1 := iv_40 hI r.toNat
      refine ir_ge (tgt := 44) hC.1 hC.2.1 d_md_with_14 (by decide) ⟨by omega, by omega⟩ ⟨by omega, by omega⟩ (fun c_2 => ?_) (fun c_2 => ?_)
      · skip
        refine lv_iload hC.1 hC.2.1 d_md_with_44 (lv_at hl 1 rfl) ?_
        exact rt_R hC hr hlk (by rw [hx4, show (S 40 r.toNat).toNat = n by omega]) d_md_with_46
      · skip
        refine lv_iload hC.1 hC.2.1 d_md_with_17 (lv_at hl 1 rfl) ?_
        refine ir_if_le (tgt := 27) hC.1 hC.2.1 d_md_with_19 (by decide) ⟨by omega, by omega⟩ (fun c_3 => ?_) (fun c_3 => ?_)
        · skip
          refine lv_aload_n hC.1 hC.2.1 d_md_with_27 rfl (lv_at hl 2 rfl) ?_
          refine lv_iload_n hC.1 hC.2.1 d_md_with_28 rfl (lv_at hl 3 rfl) ?_
          refine lv_iload_n hC.1 hC.2.1 d_md_with_29 rfl (lv_at hl 4 rfl) ?_
          refine lv_iload_n hC.1 hC.2.1 d_md_with_30 rfl (lv_at hl 5 rfl) ?_
          refine lv_iload hC.1 hC.2.1 d_md_with_31 (lv_at hl 0 rfl) ?_
          refine go_R (ca_V (As := [.int (iI (k)), .int (iI (i)), .int (iI (r)), .int (iI (x5))]) (rest := []) hC hw (c_md_between l G S k i r x5 hI (by omega) (by omega) (by omega) (by omega) hs (hs3 (by omega))) (cv_md_129 hC rfl rfl (Nat.le_of_ble_eq_true rfl) (Nat.le_of_ble_eq_true rfl)) (by decide) rfl rfl rfl hl.1 rfl (Nat.le_of_ble_eq_true rfl) d_md_with_33 ⟨Nat.le_of_ble_eq_true rfl, Nat.le_of_ble_eq_true rfl⟩) ?_
          have r_4 := mBt_b S k i r x5
          refine lv_istore (lv' := [(4, .int (iI (mBt S k i r x5))), (5, .int (iI (x5))), (0, .ref (G.2.1 25)), (1, .int (iI (k))), (2, .int (iI (i))), (3, .int (iI (r)))]) hC.1 hC.2.1 d_md_with_36 hl (by decide) rfl (fun ls hl => ?_)
          refine lv_iinc (v := iI (x5 + 1)) (lv' := [(5, .int (iI (x5 + 1))), (4, .int (iI (mBt S k i r x5))), (0, .ref (G.2.1 25)), (1, .int (iI (k))), (2, .int (iI (i))), (3, .int (iI (r)))]) hC.1 hC.2.1 d_md_with_38 hl (k := 1) rfl (iI_add _ _) (by decide) rfl (fun ls hl => ?_)
          refine lv_goto (tgt := 6) hC.1 hC.2.1 d_md_with_41 (by decide) ?_
          exact ih_6 (n + 1) _ _ (by omega) (by have g := mWt_s S k i r n; rw [← hx5] at g; rw [g]; first | (rw [if_pos (by omega)]; omega) | (rw [if_neg (by omega)])) (by first | rfl | omega) (by omega) _ (lv_sub hl [0, 1, 2, 3, 4, 5] rfl)
        · skip
          refine lv_iload hC.1 hC.2.1 d_md_with_22 (lv_at hl 1 rfl) ?_
          refine lv_goto (tgt := 36) hC.1 hC.2.1 d_md_with_24 (by decide) ?_
          refine lv_istore (lv' := [(4, .int (iI (x4))), (5, .int (iI (x5))), (0, .ref (G.2.1 25)), (1, .int (iI (k))), (2, .int (iI (i))), (3, .int (iI (r)))]) hC.1 hC.2.1 d_md_with_36 hl (by decide) rfl (fun ls hl => ?_)
          refine lv_iinc (v := iI (x5 + 1)) (lv' := [(5, .int (iI (x5 + 1))), (4, .int (iI (x4))), (0, .ref (G.2.1 25)), (1, .int (iI (k))), (2, .int (iI (i))), (3, .int (iI (r)))]) hC.1 hC.2.1 d_md_with_38 hl (k := 1) rfl (iI_add _ _) (by decide) rfl (fun ls hl => ?_)
          refine lv_goto (tgt := 6) hC.1 hC.2.1 d_md_with_41 (by decide) ?_
          exact ih_6 (n + 1) _ _ (by omega) (by have g := mWt_s S k i r n; rw [← hx5] at g; rw [g]; first | (rw [if_pos (by omega)]; omega) | (rw [if_neg (by omega)])) (by first | rfl | omega) (by omega) _ (lv_sub hl [0, 1, 2, 3, 4, 5] rfl)
  exact loop_6 _ 0 _ _ (Nat.lt_succ_self _) (by first | rfl | omega) (by first | rfl | omega) (by omega) _ (lv_sub hl [0, 1, 2, 3, 4, 5] rfl)
set_option maxHeartbeats 4000000 in
set_option maxRecDepth 100000 in
theorem c_md_against (l : Launch) (G : Gt) (S : St) (k : Int) (w : Int) (hI : Inv S) (hk : 0 ≤ k ∧ k ≤ 30) (hw1 : i32 w) (hso : ∀ j : Nat, 0 < S 40 j → 1 ≤ S 35 (S 37 j).toNat) : Met l y_md_against [.code y_md_against b_md_against 7 (some .int)] { frames := 5, cells := 0, slots := 0, locals := 124 } (va_Pc [.ref (G.2.1 25), .int (iI (k)), .int (iI (w))] (fun U => wu G S U)) (qR (mAg S k w 0 (S 40 k.toNat).toNat)) 0 0 (fun _ => False) := by
  refine mt_of (by decide +kernel) (Nat.le_of_ble_eq_true rfl) ?_
  intro p e s m below meth c ls hadm hC hr hlk hex hw hl
  have hC : CallFix p m c b_md_against 7 s _ tws "ChannelRulesModel" := hC
  have hl : lv_has ls 7 [(0, .ref (G.2.1 25)), (1, .int (iI (k))), (2, .int (iI (w)))] := hl
  have i40 := iv_40 hI k.toNat
  have i16 := iv_25k hI
  refine lv_iconst (v := iI 0) hC.1 hC.2.1 d_md_against_0 rfl ?_
  refine lv_istore_n (lv' := [(3, .int (iI (0))), (0, .ref (G.2.1 25)), (1, .int (iI (k))), (2, .int (iI (w)))]) hC.1 hC.2.1 d_md_against_1 rfl hl (by decide) rfl (fun ls hl => ?_)
  have loop_2 : ∀ (nn : Nat) (n : Nat) (x3 : Int), (S 40 k.toNat).toNat - n < nn → x3 = (n : Int) → (n : Int) ≤ S 40 k.toNat → mAg S k w 0 (S 40 k.toNat).toNat = mAg S k w n ((S 40 k.toNat).toNat - n) → ∀ (ls : Array Slot), lv_has ls 7 [(3, .int (iI (x3))), (0, .ref (G.2.1 25)), (1, .int (iI (k))), (2, .int (iI (w)))] → W p l e { frames := 5, cells := 0, slots := 0, locals := 124 } s m ([.ref (G.2.1 25), .int (iI (k)), .int (iI (w))] : List Value).toArray below meth c s.heap [] 0 0 (MQ below (qR (mAg S k w 0 (S 40 k.toNat).toNat)) ([.ref (G.2.1 25), .int (iI (k)), .int (iI (w))] : List Value).toArray s 0 0 (fun _ => False)) (F0 m 2 ls []) := by
    intro nn
    induction nn with
    | zero => intros; omega
    | succ nn ih_2 =>
      intro n x3 hms_2 hx3 hv0 hv1 ls hl
      have hvO := hv1
      refine lv_iload_n hC.1 hC.2.1 d_md_against_2 rfl (lv_at hl 0 rfl) ?_
      refine lv_aload_n hC.1 hC.2.1 d_md_against_3 rfl (lv_at hl 1 rfl) ?_
      refine gf_md_53 hC hw d_md_against_4 ?_
      refine lv_iload_n hC.1 hC.2.1 d_md_against_7 rfl (lv_at hl 2 rfl) ?_
      refine ld_40 hC hw (by omega) (by omega) d_md_against_8 ?_
      have b_1 := iv_40 hI k.toNat
      refine ir_ge (tgt := 119) hC.1 hC.2.1 d_md_against_9 (by decide) ⟨by omega, by omega⟩ ⟨by omega, by omega⟩ (fun c_2 => ?_) (fun c_2 => ?_)
      · skip
        refine lv_iconst (v := iI 0) hC.1 hC.2.1 d_md_against_119 rfl ?_
        exact rt_R hC hr hlk (by rw [hvO, show (S 40 k.toNat).toNat - n = 0 by omega]; rfl) d_md_against_120
      · skip
        refine lv_aload_n hC.1 hC.2.1 d_md_against_12 rfl (lv_at hl 1 rfl) ?_
        refine lv_iload_n hC.1 hC.2.1 d_md_against_13 rfl (lv_at hl 2 rfl) ?_
        refine lv_iload_n hC.1 hC.2.1 d_md_against_14 rfl (lv_at hl 0 rfl) ?_
        refine go_R (ca_V (As := [.int (iI (k)), .int (iI (x3))]) (rest := []) hC hw (c_md_barred l G S k x3 hI (by omega) (by omega) (hso k.toNat (by omega))) (cv_md_133 hC rfl rfl (Nat.le_of_ble_eq_true rfl) (Nat.le_of_ble_eq_true rfl)) (by decide) rfl rfl rfl hl.1 rfl (Nat.le_of_ble_eq_true rfl) d_md_against_15 ⟨Nat.le_of_ble_eq_true rfl, Nat.le_of_ble_eq_true rfl⟩) ?_
        have r_3 := mBr_b S k x3
        refine lv_istore (lv' := [(4, .int (iI (mBr S k x3))), (3, .int (iI (x3))), (0, .ref (G.2.1 25)), (1, .int (iI (k))), (2, .int (iI (w)))]) hC.1 hC.2.1 d_md_against_18 hl (by decide) rfl (fun ls hl => ?_)
        refine lv_iconst (v := iI 1) hC.1 hC.2.1 d_md_against_20 rfl ?_
        refine lv_istore (lv' := [(5, .int (iI (1))), (4, .int (iI (mBr S k x3))), (3, .int (iI (x3))), (0, .ref (G.2.1 25)), (1, .int (iI (k))), (2, .int (iI (w)))]) hC.1 hC.2.1 d_md_against_21 hl (by decide) rfl (fun ls hl => ?_)
        have loop_23 : ∀ (nn : Nat) (g : Nat) (x4 : Int) (x5 : Int), (S 25 16).toNat - g < nn → x5 = (g : Int) + 1 → (g : Int) ≤ S 25 16 → 0 ≤ x4 ∧ x4 ≤ 7 → mAi S k x3 w = mIn S k x3 w (g + 1) ((S 25 16).toNat - g) x4 → ∀ (ls : Array Slot), lv_has ls 7 [(5, .int (iI (x5))), (4, .int (iI (x4))), (3, .int (iI (x3))), (0, .ref (G.2.1 25)), (1, .int (iI (k))), (2, .int (iI (w)))] → W p l e { frames := 5, cells := 0, slots := 0, locals := 124 } s m ([.ref (G.2.1 25), .int (iI (k)), .int (iI (w))] : List Value).toArray below meth c s.heap [] 0 0 (MQ below (qR (mAg S k w 0 (S 40 k.toNat).toNat)) ([.ref (G.2.1 25), .int (iI (k)), .int (iI (w))] : List Value).toArray s 0 0 (fun _ => False)) (F0 m 23 ls []) := by
          intro nn
          induction nn with
          | zero => intros; omega
          | succ nn ih_23 =>
            intro g x4 x5 hms_23 hx5 hv0 hv1 hv2 ls hl
            have hs3 : 0 < S 40 x5.toNat → 1 ≤ S 35 (S 37 x5.toNat).toNat := hso x5.toNat
            have wb := mWt_b S k x3 x5 (S 40 x5.toNat).toNat
            refine lv_iload hC.1 hC.2.1 d_md_against_23 (lv_at hl 0 rfl) ?_
            refine lv_aload_n hC.1 hC.2.1 d_md_against_25 rfl (lv_at hl 3 rfl) ?_
            refine gf_md_75 hC hw d_md_against_26 ?_
            have b_4 := iv_25k hI
            refine ir_gt (tgt := 105) hC.1 hC.2.1 d_md_against_29 (by decide) ⟨by omega, by omega⟩ ⟨by omega, by omega⟩ (fun c_5 => ?_) (fun c_5 => ?_)
            · skip
              have hg1 : mAi S k x3 w = x4 := (by rw [hv2]; first | exact mIn_e S k x3 w (g + 1) _ x4 (by omega) | rw [show (S 25 16).toNat - g = 0 by omega]; rfl)
              refine lv_iload hC.1 hC.2.1 d_md_against_105 (lv_at hl 1 rfl) ?_
              refine ir_if_le (tgt := 113) hC.1 hC.2.1 d_md_against_107 (by decide) ⟨by omega, by omega⟩ (fun c_6 => ?_) (fun c_6 => ?_)
              · skip
                refine lv_iinc (v := iI (x3 + 1)) (lv' := [(3, .int (iI (x3 + 1))), (5, .int (iI (x5))), (4, .int (iI (x4))), (0, .ref (G.2.1 25)), (1, .int (iI (k))), (2, .int (iI (w)))]) hC.1 hC.2.1 d_md_against_113 hl (k := 2) rfl (iI_add _ _) (by decide) rfl (fun ls hl => ?_)
                refine lv_goto (tgt := 2) hC.1 hC.2.1 d_md_against_116 (by decide) ?_
                exact ih_2 (n + 1) _ (by omega) (by first | rfl | omega) (by omega) (by rw [hvO, mAg_s S k w n _ (by omega), ← hx3, hg1, if_neg (by omega)]) _ (lv_sub hl [0, 3, 4, 5] rfl)
              · skip
                refine lv_iload hC.1 hC.2.1 d_md_against_110 (lv_at hl 1 rfl) ?_
                exact rt_R hC hr hlk (by rw [hvO, mAg_s S k w n _ (by omega), ← hx3, hg1, if_pos (by omega)]) d_md_against_112
            · skip
              refine lv_iload hC.1 hC.2.1 d_md_against_32 (lv_at hl 1 rfl) ?_
              refine ir_if_eq (tgt := 43) hC.1 hC.2.1 d_md_against_34 (by decide) ⟨by omega, by omega⟩ (fun c_7 => ?_) (fun c_7 => ?_)
              · skip
                refine lv_aload_n hC.1 hC.2.1 d_md_against_43 rfl (lv_at hl 3 rfl) ?_
                refine gf_md_49 hC hw d_md_against_44 ?_
                refine lv_iload hC.1 hC.2.1 d_md_against_47 (lv_at hl 0 rfl) ?_
                refine ld_39 hC hw (by omega) (by omega) d_md_against_49 ?_
                have b_8 := iv_39 hI x5.toNat
                refine ir_if_eq (tgt := 70) hC.1 hC.2.1 d_md_against_50 (by decide) ⟨by omega, by omega⟩ (fun c_9 => ?_) (fun c_9 => ?_)
                · skip
                  refine lv_iconst (v := iI 0) hC.1 hC.2.1 d_md_against_70 rfl ?_
                  refine lv_istore (lv' := [(6, .int (iI (0))), (5, .int (iI (x5))), (4, .int (iI (x4))), (3, .int (iI (x3))), (0, .ref (G.2.1 25)), (1, .int (iI (k))), (2, .int (iI (w)))]) hC.1 hC.2.1 d_md_against_71 hl (by decide) rfl (fun ls hl => ?_)
                  refine lv_iload hC.1 hC.2.1 d_md_against_73 (lv_at hl 0 rfl) ?_
                  refine ir_if_le (tgt := 95) hC.1 hC.2.1 d_md_against_75 (by decide) (by decide) (fun c_10 => ?_) (fun c_10 => ?_)
                  · skip
                    refine lv_iload hC.1 hC.2.1 d_md_against_95 (lv_at hl 2 rfl) ?_
                    refine lv_istore (lv' := [(4, .int (iI (x4))), (6, .int (iI (0))), (5, .int (iI (x5))), (3, .int (iI (x3))), (0, .ref (G.2.1 25)), (1, .int (iI (k))), (2, .int (iI (w)))]) hC.1 hC.2.1 d_md_against_97 hl (by decide) rfl (fun ls hl => ?_)
                    refine lv_iinc (v := iI (x5 + 1)) (lv' := [(5, .int (iI (x5 + 1))), (4, .int (iI (x4))), (6, .int (iI (0))), (3, .int (iI (x3))), (0, .ref (G.2.1 25)), (1, .int (iI (k))), (2, .int (iI (w)))]) hC.1 hC.2.1 d_md_against_99 hl (k := 2) rfl (iI_add _ _) (by decide) rfl (fun ls hl => ?_)
                    refine lv_goto (tgt := 23) hC.1 hC.2.1 d_md_against_102 (by decide) ?_
                    exact ih_23 (g + 1) _ _ (by omega) (by first | rfl | omega) (by omega) (by omega) (by rw [hv2, mIn_s S k x3 w g _ x4 (by omega), ← hx5, if_pos (by omega)]; congr 1; unfold mUp mGv; first | (simp [c_2, c_5, c_7, c_9]; done) | (simp [c_2, c_5, c_7, c_9]; omega) | ((repeat' split) <;> omega)) _ (lv_sub hl [0, 1, 3, 4, 5, 6] rfl)
                  · exact absurd c_10 (by decide)
                · skip
                  refine lv_iload hC.1 hC.2.1 d_md_against_53 (lv_at hl 0 rfl) ?_
                  refine lv_iload_n hC.1 hC.2.1 d_md_against_55 rfl (lv_at hl 5 rfl) ?_
                  refine ir_eq (tgt := 70) hC.1 hC.2.1 d_md_against_56 (by decide) ⟨by omega, by omega⟩ ⟨by omega, by omega⟩ (fun c_11 => ?_) (fun c_11 => ?_)
                  · skip
                    refine lv_iconst (v := iI 0) hC.1 hC.2.1 d_md_against_70 rfl ?_
                    refine lv_istore (lv' := [(6, .int (iI (0))), (5, .int (iI (x5))), (4, .int (iI (x4))), (3, .int (iI (x3))), (0, .ref (G.2.1 25)), (1, .int (iI (k))), (2, .int (iI (w)))]) hC.1 hC.2.1 d_md_against_71 hl (by decide) rfl (fun ls hl => ?_)
                    refine lv_iload hC.1 hC.2.1 d_md_against_73 (lv_at hl 0 rfl) ?_
                    refine ir_if_le (tgt := 95) hC.1 hC.2.1 d_md_against_75 (by decide) (by decide) (fun c_12 => ?_) (fun c_12 => ?_)
                    · skip
                      refine lv_iload hC.1 hC.2.1 d_md_against_95 (lv_at hl 2 rfl) ?_
                      refine lv_istore (lv' := [(4, .int (iI (x4))), (6, .int (iI (0))), (5, .int (iI (x5))), (3, .int (iI (x3))), (0, .ref (G.2.1 25)), (1, .int (iI (k))), (2, .int (iI (w)))]) hC.1 hC.2.1 d_md_against_97 hl (by decide) rfl (fun ls hl => ?_)
                      refine lv_iinc (v := iI (x5 + 1)) (lv' := [(5, .int (iI (x5 + 1))), (4, .int (iI (x4))), (6, .int (iI (0))), (3, .int (iI (x3))), (0, .ref (G.2.1 25)), (1, .int (iI (k))), (2, .int (iI (w)))]) hC.1 hC.2.1 d_md_against_99 hl (k := 2) rfl (iI_add _ _) (by decide) rfl (fun ls hl => ?_)
                      refine lv_goto (tgt := 23) hC.1 hC.2.1 d_md_against_102 (by decide) ?_
                      exact ih_23 (g + 1) _ _ (by omega) (by first | rfl | omega) (by omega) (by omega) (by rw [hv2, mIn_s S k x3 w g _ x4 (by omega), ← hx5, if_pos (by omega)]; congr 1; unfold mUp mGv; first | (simp [c_2, c_5, c_7, c_9, c_11]; done) | (simp [c_2, c_5, c_7, c_9, c_11]; omega) | ((repeat' split) <;> omega)) _ (lv_sub hl [0, 1, 3, 4, 5, 6] rfl)
                    · exact absurd c_12 (by decide)
                  · skip
                    refine lv_aload_n hC.1 hC.2.1 d_md_against_59 rfl (lv_at hl 3 rfl) ?_
                    refine lv_iload_n hC.1 hC.2.1 d_md_against_60 rfl (lv_at hl 4 rfl) ?_
                    refine lv_iload_n hC.1 hC.2.1 d_md_against_61 rfl (lv_at hl 2 rfl) ?_
                    refine lv_iload hC.1 hC.2.1 d_md_against_62 (lv_at hl 0 rfl) ?_
                    refine go_R (ca_V (As := [.int (iI (k)), .int (iI (x3)), .int (iI (x5))]) (rest := []) hC hw (c_md_with l G S k x3 x5 hI (by omega) (by omega) (by omega) (hso k.toNat (by omega)) hs3) (cv_md_136 hC rfl rfl (Nat.le_of_ble_eq_true rfl) (Nat.le_of_ble_eq_true rfl)) (by decide) rfl rfl rfl hl.1 rfl (Nat.le_of_ble_eq_true rfl) d_md_against_64 ⟨Nat.le_of_ble_eq_true rfl, Nat.le_of_ble_eq_true rfl⟩) ?_
                    have r_13 := mWt_b S k x3 x5 (S 40 x5.toNat).toNat
                    refine lv_goto (tgt := 71) hC.1 hC.2.1 d_md_against_67 (by decide) ?_
                    refine lv_istore (lv' := [(6, .int (iI (mWt S k x3 x5 (S 40 x5.toNat).toNat))), (5, .int (iI (x5))), (4, .int (iI (x4))), (3, .int (iI (x3))), (0, .ref (G.2.1 25)), (1, .int (iI (k))), (2, .int (iI (w)))]) hC.1 hC.2.1 d_md_against_71 hl (by decide) rfl (fun ls hl => ?_)
                    refine lv_iload hC.1 hC.2.1 d_md_against_73 (lv_at hl 0 rfl) ?_
                    refine ir_if_le (tgt := 95) hC.1 hC.2.1 d_md_against_75 (by decide) ⟨by omega, by omega⟩ (fun c_14 => ?_) (fun c_14 => ?_)
                    · skip
                      refine lv_iload hC.1 hC.2.1 d_md_against_95 (lv_at hl 2 rfl) ?_
                      refine lv_istore (lv' := [(4, .int (iI (x4))), (6, .int (iI (mWt S k x3 x5 (S 40 x5.toNat).toNat))), (5, .int (iI (x5))), (3, .int (iI (x3))), (0, .ref (G.2.1 25)), (1, .int (iI (k))), (2, .int (iI (w)))]) hC.1 hC.2.1 d_md_against_97 hl (by decide) rfl (fun ls hl => ?_)
                      refine lv_iinc (v := iI (x5 + 1)) (lv' := [(5, .int (iI (x5 + 1))), (4, .int (iI (x4))), (6, .int (iI (mWt S k x3 x5 (S 40 x5.toNat).toNat))), (3, .int (iI (x3))), (0, .ref (G.2.1 25)), (1, .int (iI (k))), (2, .int (iI (w)))]) hC.1 hC.2.1 d_md_against_99 hl (k := 2) rfl (iI_add _ _) (by decide) rfl (fun ls hl => ?_)
                      refine lv_goto (tgt := 23) hC.1 hC.2.1 d_md_against_102 (by decide) ?_
                      exact ih_23 (g + 1) _ _ (by omega) (by first | rfl | omega) (by omega) (by omega) (by rw [hv2, mIn_s S k x3 w g _ x4 (by omega), ← hx5, if_pos (by omega)]; congr 1; unfold mUp mGv; first | (simp [c_2, c_5, c_7, c_9, c_11, c_14]; done) | (simp [c_2, c_5, c_7, c_9, c_11, c_14]; omega) | ((repeat' split) <;> omega)) _ (lv_sub hl [0, 1, 3, 4, 5, 6] rfl)
                    · skip
                      refine lv_iload hC.1 hC.2.1 d_md_against_78 (lv_at hl 2 rfl) ?_
                      refine ir_if_eq (tgt := 90) hC.1 hC.2.1 d_md_against_80 (by decide) ⟨by omega, by omega⟩ (fun c_15 => ?_) (fun c_15 => ?_)
                      · skip
                        refine lv_iload hC.1 hC.2.1 d_md_against_90 (lv_at hl 0 rfl) ?_
                        refine lv_goto (tgt := 97) hC.1 hC.2.1 d_md_against_92 (by decide) ?_
                        refine lv_istore (lv' := [(4, .int (iI (mWt S k x3 x5 (S 40 x5.toNat).toNat))), (6, .int (iI (mWt S k x3 x5 (S 40 x5.toNat).toNat))), (5, .int (iI (x5))), (3, .int (iI (x3))), (0, .ref (G.2.1 25)), (1, .int (iI (k))), (2, .int (iI (w)))]) hC.1 hC.2.1 d_md_against_97 hl (by decide) rfl (fun ls hl => ?_)
                        refine lv_iinc (v := iI (x5 + 1)) (lv' := [(5, .int (iI (x5 + 1))), (4, .int (iI (mWt S k x3 x5 (S 40 x5.toNat).toNat))), (6, .int (iI (mWt S k x3 x5 (S 40 x5.toNat).toNat))), (3, .int (iI (x3))), (0, .ref (G.2.1 25)), (1, .int (iI (k))), (2, .int (iI (w)))]) hC.1 hC.2.1 d_md_against_99 hl (k := 2) rfl (iI_add _ _) (by decide) rfl (fun ls hl => ?_)
                        refine lv_goto (tgt := 23) hC.1 hC.2.1 d_md_against_102 (by decide) ?_
                        exact ih_23 (g + 1) _ _ (by omega) (by first | rfl | omega) (by omega) (by omega) (by rw [hv2, mIn_s S k x3 w g _ x4 (by omega), ← hx5, if_pos (by omega)]; congr 1; unfold mUp mGv; first | (simp [c_2, c_5, c_7, c_9, c_11, c_14, c_15]; done) | (simp [c_2, c_5, c_7, c_9, c_11, c_14, c_15]; omega) | ((repeat' split) <;> omega)) _ (lv_sub hl [0, 1, 3, 4, 5, 6] rfl)
                      · skip
                        refine lv_iload hC.1 hC.2.1 d_md_against_83 (lv_at hl 0 rfl) ?_
                        refine lv_iload hC.1 hC.2.1 d_md_against_85 (lv_at hl 2 rfl) ?_
                        refine ir_ge (tgt := 95) hC.1 hC.2.1 d_md_against_87 (by decide) ⟨by omega, by omega⟩ ⟨by omega, by omega⟩ (fun c_16 => ?_) (fun c_16 => ?_)
                        · skip
                          refine lv_iload hC.1 hC.2.1 d_md_against_95 (lv_at hl 2 rfl) ?_
                          refine lv_istore (lv' := [(4, .int (iI (x4))), (6, .int (iI (mWt S k x3 x5 (S 40 x5.toNat).toNat))), (5, .int (iI (x5))), (3, .int (iI (x3))), (0, .ref (G.2.1 25)), (1, .int (iI (k))), (2, .int (iI (w)))]) hC.1 hC.2.1 d_md_against_97 hl (by decide) rfl (fun ls hl => ?_)
                          refine lv_iinc (v := iI (x5 + 1)) (lv' := [(5, .int (iI (x5 + 1))), (4, .int (iI (x4))), (6, .int (iI (mWt S k x3 x5 (S 40 x5.toNat).toNat))), (3, .int (iI (x3))), (0, .ref (G.2.1 25)), (1, .int (iI (k))), (2, .int (iI (w)))]) hC.1 hC.2.1 d_md_against_99 hl (k := 2) rfl (iI_add _ _) (by decide) rfl (fun ls hl => ?_)
                          refine lv_goto (tgt := 23) hC.1 hC.2.1 d_md_against_102 (by decide) ?_
                          exact ih_23 (g + 1) _ _ (by omega) (by first | rfl | omega) (by omega) (by omega) (by rw [hv2, mIn_s S k x3 w g _ x4 (by omega), ← hx5, if_pos (by omega)]; congr 1; unfold mUp mGv; first | (simp [c_2, c_5, c_7, c_9, c_11, c_14, c_15, c_16]; done) | (simp [c_2, c_5, c_7, c_9, c_11, c_14, c_15, c_16]; omega) | ((repeat' split) <;> omega)) _ (lv_sub hl [0, 1, 3, 4, 5, 6] rfl)
                        · skip
                          refine lv_iload hC.1 hC.2.1 d_md_against_90 (lv_at hl 0 rfl) ?_
                          refine lv_goto (tgt := 97) hC.1 hC.2.1 d_md_against_92 (by decide) ?_
                          refine lv_istore (lv' := [(4, .int (iI (mWt S k x3 x5 (S 40 x5.toNat).toNat))), (6, .int (iI (mWt S k x3 x5 (S 40 x5.toNat).toNat))), (5, .int (iI (x5))), (3, .int (iI (x3))), (0, .ref (G.2.1 25)), (1, .int (iI (k))), (2, .int (iI (w)))]) hC.1 hC.2.1 d_md_against_97 hl (by decide) rfl (fun ls hl => ?_)
                          refine lv_iinc (v := iI (x5 + 1)) (lv' := [(5, .int (iI (x5 + 1))), (4, .int (iI (mWt S k x3 x5 (S 40 x5.toNat).toNat))), (6, .int (iI (mWt S k x3 x5 (S 40 x5.toNat).toNat))), (3, .int (iI (x3))), (0, .ref (G.2.1 25)), (1, .int (iI (k))), (2, .int (iI (w)))]) hC.1 hC.2.1 d_md_against_99 hl (k := 2) rfl (iI_add _ _) (by decide) rfl (fun ls hl => ?_)
                          refine lv_goto (tgt := 23) hC.1 hC.2.1 d_md_against_102 (by decide) ?_
                          exact ih_23 (g + 1) _ _ (by omega) (by first | rfl | omega) (by omega) (by omega) (by rw [hv2, mIn_s S k x3 w g _ x4 (by omega), ← hx5, if_pos (by omega)]; congr 1; unfold mUp mGv; first | (simp [c_2, c_5, c_7, c_9, c_11, c_14, c_15, c_16]; done) | (simp [c_2, c_5, c_7, c_9, c_11, c_14, c_15, c_16]; omega) | ((repeat' split) <;> omega)) _ (lv_sub hl [0, 1, 3, 4, 5, 6] rfl)
              · skip
                refine lv_iload hC.1 hC.2.1 d_md_against_37 (lv_at hl 1 rfl) ?_
                refine lv_iconst (v := iI 5) hC.1 hC.2.1 d_md_against_39 rfl ?_
                refine ir_le (tgt := 105) hC.1 hC.2.1 d_md_against_40 (by decide) ⟨by omega, by omega⟩ (by decide) (fun c_17 => ?_) (fun c_17 => ?_)
                · skip
                  have hg1 : mAi S k x3 w = x4 := (by rw [hv2]; first | exact mIn_e S k x3 w (g + 1) _ x4 (by omega) | rw [show (S 25 16).toNat - g = 0 by omega]; rfl)
                  refine lv_iload hC.1 hC.2.1 d_md_against_105 (lv_at hl 1 rfl) ?_
                  refine ir_if_le (tgt := 113) hC.1 hC.2.1 d_md_against_107 (by decide) ⟨by omega, by omega⟩ (fun c_18 => ?_) (fun c_18 => ?_)
                  · skip
                    refine lv_iinc (v := iI (x3 + 1)) (lv' := [(3, .int (iI (x3 + 1))), (5, .int (iI (x5))), (4, .int (iI (x4))), (0, .ref (G.2.1 25)), (1, .int (iI (k))), (2, .int (iI (w)))]) hC.1 hC.2.1 d_md_against_113 hl (k := 2) rfl (iI_add _ _) (by decide) rfl (fun ls hl => ?_)
                    refine lv_goto (tgt := 2) hC.1 hC.2.1 d_md_against_116 (by decide) ?_
                    exact ih_2 (n + 1) _ (by omega) (by first | rfl | omega) (by omega) (by rw [hvO, mAg_s S k w n _ (by omega), ← hx3, hg1, if_neg (by omega)]) _ (lv_sub hl [0, 3, 4, 5] rfl)
                  · skip
                    refine lv_iload hC.1 hC.2.1 d_md_against_110 (lv_at hl 1 rfl) ?_
                    exact rt_R hC hr hlk (by rw [hvO, mAg_s S k w n _ (by omega), ← hx3, hg1, if_pos (by omega)]) d_md_against_112
                · skip
                  refine lv_aload_n hC.1 hC.2.1 d_md_against_43 rfl (lv_at hl 3 rfl) ?_
                  refine gf_md_49 hC hw d_md_against_44 ?_
                  refine lv_iload hC.1 hC.2.1 d_md_against_47 (lv_at hl 0 rfl) ?_
                  refine ld_39 hC hw (by omega) (by omega) d_md_against_49 ?_
                  have b_19 := iv_39 hI x5.toNat
                  refine ir_if_eq (tgt := 70) hC.1 hC.2.1 d_md_against_50 (by decide) ⟨by omega, by omega⟩ (fun c_20 => ?_) (fun c_20 => ?_)
                  · skip
                    refine lv_iconst (v := iI 0) hC.1 hC.2.1 d_md_against_70 rfl ?_
                    refine lv_istore (lv' := [(6, .int (iI (0))), (5, .int (iI (x5))), (4, .int (iI (x4))), (3, .int (iI (x3))), (0, .ref (G.2.1 25)), (1, .int (iI (k))), (2, .int (iI (w)))]) hC.1 hC.2.1 d_md_against_71 hl (by decide) rfl (fun ls hl => ?_)
                    refine lv_iload hC.1 hC.2.1 d_md_against_73 (lv_at hl 0 rfl) ?_
                    refine ir_if_le (tgt := 95) hC.1 hC.2.1 d_md_against_75 (by decide) (by decide) (fun c_21 => ?_) (fun c_21 => ?_)
                    · skip
                      refine lv_iload hC.1 hC.2.1 d_md_against_95 (lv_at hl 2 rfl) ?_
                      refine lv_istore (lv' := [(4, .int (iI (x4))), (6, .int (iI (0))), (5, .int (iI (x5))), (3, .int (iI (x3))), (0, .ref (G.2.1 25)), (1, .int (iI (k))), (2, .int (iI (w)))]) hC.1 hC.2.1 d_md_against_97 hl (by decide) rfl (fun ls hl => ?_)
                      refine lv_iinc (v := iI (x5 + 1)) (lv' := [(5, .int (iI (x5 + 1))), (4, .int (iI (x4))), (6, .int (iI (0))), (3, .int (iI (x3))), (0, .ref (G.2.1 25)), (1, .int (iI (k))), (2, .int (iI (w)))]) hC.1 hC.2.1 d_md_against_99 hl (k := 2) rfl (iI_add _ _) (by decide) rfl (fun ls hl => ?_)
                      refine lv_goto (tgt := 23) hC.1 hC.2.1 d_md_against_102 (by decide) ?_
                      exact ih_23 (g + 1) _ _ (by omega) (by first | rfl | omega) (by omega) (by omega) (by rw [hv2, mIn_s S k x3 w g _ x4 (by omega), ← hx5, if_pos (by omega)]; congr 1; unfold mUp mGv; first | (simp [c_2, c_5, c_7, c_17, c_20]; done) | (simp [c_2, c_5, c_7, c_17, c_20]; omega) | ((repeat' split) <;> omega)) _ (lv_sub hl [0, 1, 3, 4, 5, 6] rfl)
                    · exact absurd c_21 (by decide)
                  · skip
                    refine lv_iload hC.1 hC.2.1 d_md_against_53 (lv_at hl 0 rfl) ?_
                    refine lv_iload_n hC.1 hC.2.1 d_md_against_55 rfl (lv_at hl 5 rfl) ?_
                    refine ir_eq (tgt := 70) hC.1 hC.2.1 d_md_against_56 (by decide) ⟨by omega, by omega⟩ ⟨by omega, by omega⟩ (fun c_22 => ?_) (fun c_22 => ?_)
                    · skip
                      refine lv_iconst (v := iI 0) hC.1 hC.2.1 d_md_against_70 rfl ?_
                      refine lv_istore (lv' := [(6, .int (iI (0))), (5, .int (iI (x5))), (4, .int (iI (x4))), (3, .int (iI (x3))), (0, .ref (G.2.1 25)), (1, .int (iI (k))), (2, .int (iI (w)))]) hC.1 hC.2.1 d_md_against_71 hl (by decide) rfl (fun ls hl => ?_)
                      refine lv_iload hC.1 hC.2.1 d_md_against_73 (lv_at hl 0 rfl) ?_
                      refine ir_if_le (tgt := 95) hC.1 hC.2.1 d_md_against_75 (by decide) (by decide) (fun c_23 => ?_) (fun c_23 => ?_)
                      · skip
                        refine lv_iload hC.1 hC.2.1 d_md_against_95 (lv_at hl 2 rfl) ?_
                        refine lv_istore (lv' := [(4, .int (iI (x4))), (6, .int (iI (0))), (5, .int (iI (x5))), (3, .int (iI (x3))), (0, .ref (G.2.1 25)), (1, .int (iI (k))), (2, .int (iI (w)))]) hC.1 hC.2.1 d_md_against_97 hl (by decide) rfl (fun ls hl => ?_)
                        refine lv_iinc (v := iI (x5 + 1)) (lv' := [(5, .int (iI (x5 + 1))), (4, .int (iI (x4))), (6, .int (iI (0))), (3, .int (iI (x3))), (0, .ref (G.2.1 25)), (1, .int (iI (k))), (2, .int (iI (w)))]) hC.1 hC.2.1 d_md_against_99 hl (k := 2) rfl (iI_add _ _) (by decide) rfl (fun ls hl => ?_)
                        refine lv_goto (tgt := 23) hC.1 hC.2.1 d_md_against_102 (by decide) ?_
                        exact ih_23 (g + 1) _ _ (by omega) (by first | rfl | omega) (by omega) (by omega) (by rw [hv2, mIn_s S k x3 w g _ x4 (by omega), ← hx5, if_pos (by omega)]; congr 1; unfold mUp mGv; first | (simp [c_2, c_5, c_7, c_17, c_20, c_22]; done) | (simp [c_2, c_5, c_7, c_17, c_20, c_22]; omega) | ((repeat' split) <;> omega)) _ (lv_sub hl [0, 1, 3, 4, 5, 6] rfl)
                      · exact absurd c_23 (by decide)
                    · skip
                      refine lv_aload_n hC.1 hC.2.1 d_md_against_59 rfl (lv_at hl 3 rfl) ?_
                      refine lv_iload_n hC.1 hC.2.1 d_md_against_60 rfl (lv_at hl 4 rfl) ?_
                      refine lv_iload_n hC.1 hC.2.1 d_md_against_61 rfl (lv_at hl 2 rfl) ?_
                      refine lv_iload hC.1 hC.2.1 d_md_against_62 (lv_at hl 0 rfl) ?_
                      refine go_R (ca_V (As := [.int (iI (k)), .int (iI (x3)), .int (iI (x5))]) (rest := []) hC hw (c_md_with l G S k x3 x5 hI (by omega) (by omega) (by omega) (hso k.toNat (by omega)) hs3) (cv_md_136 hC rfl rfl (Nat.le_of_ble_eq_true rfl) (Nat.le_of_ble_eq_true rfl)) (by decide) rfl rfl rfl hl.1 rfl (Nat.le_of_ble_eq_true rfl) d_md_against_64 ⟨Nat.le_of_ble_eq_true rfl, Nat.le_of_ble_eq_true rfl⟩) ?_
                      have r_24 := mWt_b S k x3 x5 (S 40 x5.toNat).toNat
                      refine lv_goto (tgt := 71) hC.1 hC.2.1 d_md_against_67 (by decide) ?_
                      refine lv_istore (lv' := [(6, .int (iI (mWt S k x3 x5 (S 40 x5.toNat).toNat))), (5, .int (iI (x5))), (4, .int (iI (x4))), (3, .int (iI (x3))), (0, .ref (G.2.1 25)), (1, .int (iI (k))), (2, .int (iI (w)))]) hC.1 hC.2.1 d_md_against_71 hl (by decide) rfl (fun ls hl => ?_)
                      refine lv_iload hC.1 hC.2.1 d_md_against_73 (lv_at hl 0 rfl) ?_
                      refine ir_if_le (tgt := 95) hC.1 hC.2.1 d_md_against_75 (by decide) ⟨by omega, by omega⟩ (fun c_25 => ?_) (fun c_25 => ?_)
                      · skip
                        refine lv_iload hC.1 hC.2.1 d_md_against_95 (lv_at hl 2 rfl) ?_
                        refine lv_istore (lv' := [(4, .int (iI (x4))), (6, .int (iI (mWt S k x3 x5 (S 40 x5.toNat).toNat))), (5, .int (iI (x5))), (3, .int (iI (x3))), (0, .ref (G.2.1 25)), (1, .int (iI (k))), (2, .int (iI (w)))]) hC.1 hC.2.1 d_md_against_97 hl (by decide) rfl (fun ls hl => ?_)
                        refine lv_iinc (v := iI (x5 + 1)) (lv' := [(5, .int (iI (x5 + 1))), (4, .int (iI (x4))), (6, .int (iI (mWt S k x3 x5 (S 40 x5.toNat).toNat))), (3, .int (iI (x3))), (0, .ref (G.2.1 25)), (1, .int (iI (k))), (2, .int (iI (w)))]) hC.1 hC.2.1 d_md_against_99 hl (k := 2) rfl (iI_add _ _) (by decide) rfl (fun ls hl => ?_)
                        refine lv_goto (tgt := 23) hC.1 hC.2.1 d_md_against_102 (by decide) ?_
                        exact ih_23 (g + 1) _ _ (by omega) (by first | rfl | omega) (by omega) (by omega) (by rw [hv2, mIn_s S k x3 w g _ x4 (by omega), ← hx5, if_pos (by omega)]; congr 1; unfold mUp mGv; first | (simp [c_2, c_5, c_7, c_17, c_20, c_22, c_25]; done) | (simp [c_2, c_5, c_7, c_17, c_20, c_22, c_25]; omega) | ((repeat' split) <;> omega)) _ (lv_sub hl [0, 1, 3, 4, 5, 6] rfl)
                      · skip
                        refine lv_iload hC.1 hC.2.1 d_md_against_78 (lv_at hl 2 rfl) ?_
                        refine ir_if_eq (tgt := 90) hC.1 hC.2.1 d_md_against_80 (by decide) ⟨by omega, by omega⟩ (fun c_26 => ?_) (fun c_26 => ?_)
                        · skip
                          refine lv_iload hC.1 hC.2.1 d_md_against_90 (lv_at hl 0 rfl) ?_
                          refine lv_goto (tgt := 97) hC.1 hC.2.1 d_md_against_92 (by decide) ?_
                          refine lv_istore (lv' := [(4, .int (iI (mWt S k x3 x5 (S 40 x5.toNat).toNat))), (6, .int (iI (mWt S k x3 x5 (S 40 x5.toNat).toNat))), (5, .int (iI (x5))), (3, .int (iI (x3))), (0, .ref (G.2.1 25)), (1, .int (iI (k))), (2, .int (iI (w)))]) hC.1 hC.2.1 d_md_against_97 hl (by decide) rfl (fun ls hl => ?_)
                          refine lv_iinc (v := iI (x5 + 1)) (lv' := [(5, .int (iI (x5 + 1))), (4, .int (iI (mWt S k x3 x5 (S 40 x5.toNat).toNat))), (6, .int (iI (mWt S k x3 x5 (S 40 x5.toNat).toNat))), (3, .int (iI (x3))), (0, .ref (G.2.1 25)), (1, .int (iI (k))), (2, .int (iI (w)))]) hC.1 hC.2.1 d_md_against_99 hl (k := 2) rfl (iI_add _ _) (by decide) rfl (fun ls hl => ?_)
                          refine lv_goto (tgt := 23) hC.1 hC.2.1 d_md_against_102 (by decide) ?_
                          exact ih_23 (g + 1) _ _ (by omega) (by first | rfl | omega) (by omega) (by omega) (by rw [hv2, mIn_s S k x3 w g _ x4 (by omega), ← hx5, if_pos (by omega)]; congr 1; unfold mUp mGv; first | (simp [c_2, c_5, c_7, c_17, c_20, c_22, c_25, c_26]; done) | (simp [c_2, c_5, c_7, c_17, c_20, c_22, c_25, c_26]; omega) | ((repeat' split) <;> omega)) _ (lv_sub hl [0, 1, 3, 4, 5, 6] rfl)
                        · skip
                          refine lv_iload hC.1 hC.2.1 d_md_against_83 (lv_at hl 0 rfl) ?_
                          refine lv_iload hC.1 hC.2.1 d_md_against_85 (lv_at hl 2 rfl) ?_
                          refine ir_ge (tgt := 95) hC.1 hC.2.1 d_md_against_87 (by decide) ⟨by omega, by omega⟩ ⟨by omega, by omega⟩ (fun c_27 => ?_) (fun c_27 => ?_)
                          · skip
                            refine lv_iload hC.1 hC.2.1 d_md_against_95 (lv_at hl 2 rfl) ?_
                            refine lv_istore (lv' := [(4, .int (iI (x4))), (6, .int (iI (mWt S k x3 x5 (S 40 x5.toNat).toNat))), (5, .int (iI (x5))), (3, .int (iI (x3))), (0, .ref (G.2.1 25)), (1, .int (iI (k))), (2, .int (iI (w)))]) hC.1 hC.2.1 d_md_against_97 hl (by decide) rfl (fun ls hl => ?_)
                            refine lv_iinc (v := iI (x5 + 1)) (lv' := [(5, .int (iI (x5 + 1))), (4, .int (iI (x4))), (6, .int (iI (mWt S k x3 x5 (S 40 x5.toNat).toNat))), (3, .int (iI (x3))), (0, .ref (G.2.1 25)), (1, .int (iI (k))), (2, .int (iI (w)))]) hC.1 hC.2.1 d_md_against_99 hl (k := 2) rfl (iI_add _ _) (by decide) rfl (fun ls hl => ?_)
                            refine lv_goto (tgt := 23) hC.1 hC.2.1 d_md_against_102 (by decide) ?_
                            exact ih_23 (g + 1) _ _ (by omega) (by first | rfl | omega) (by omega) (by omega) (by rw [hv2, mIn_s S k x3 w g _ x4 (by omega), ← hx5, if_pos (by omega)]; congr 1; unfold mUp mGv; first | (simp [c_2, c_5, c_7, c_17, c_20, c_22, c_25, c_26, c_27]; done) | (simp [c_2, c_5, c_7, c_17, c_20, c_22, c_25, c_26, c_27]; omega) | ((repeat' split) <;> omega)) _ (lv_sub hl [0, 1, 3, 4, 5, 6] rfl)
                          · skip
                            refine lv_iload hC.1 hC.2.1 d_md_against_90 (lv_at hl 0 rfl) ?_
                            refine lv_goto (tgt := 97) hC.1 hC.2.1 d_md_against_92 (by decide) ?_
                            refine lv_istore (lv' := [(4, .int (iI (mWt S k x3 x5 (S 40 x5.toNat).toNat))), (6, .int (iI (mWt S k x3 x5 (S 40 x5.toNat).toNat))), (5, .int (iI (x5))), (3, .int (iI (x3))), (0, .ref (G.2.1 25)), (1, .int (iI (k))), (2, .int (iI (w)))]) hC.1 hC.2.1 d_md_against_97 hl (by decide) rfl (fun ls hl => ?_)
                            refine lv_iinc (v := iI (x5 + 1)) (lv' := [(5, .int (iI (x5 + 1))), (4, .int (iI (mWt S k x3 x5 (S 40 x5.toNat).toNat))), (6, .int (iI (mWt S k x3 x5 (S 40 x5.toNat).toNat))), (3, .int (iI (x3))), (0, .ref (G.2.1 25)), (1, .int (iI (k))), (2, .int (iI (w)))]) hC.1 hC.2.1 d_md_against_99 hl (k := 2) rfl (iI_add _ _) (by decide) rfl (fun ls hl => ?_)
                            refine lv_goto (tgt := 23) hC.1 hC.2.1 d_md_against_102 (by decide) ?_
                            exact ih_23 (g + 1) _ _ (by omega) (by first | rfl | omega) (by omega) (by omega) (by rw [hv2, mIn_s S k x3 w g _ x4 (by omega), ← hx5, if_pos (by omega)]; congr 1; unfold mUp mGv; first | (simp [c_2, c_5, c_7, c_17, c_20, c_22, c_25, c_26, c_27]; done) | (simp [c_2, c_5, c_7, c_17, c_20, c_22, c_25, c_26, c_27]; omega) | ((repeat' split) <;> omega)) _ (lv_sub hl [0, 1, 3, 4, 5, 6] rfl)
        exact loop_23 _ 0 _ _ (Nat.lt_succ_self _) (by first | rfl | omega) (by omega) (by omega) rfl _ (lv_sub hl [0, 1, 2, 3, 4, 5] rfl)
  exact loop_2 _ 0 _ (Nat.lt_succ_self _) (by first | rfl | omega) (by omega) rfl _ (lv_sub hl [0, 1, 2, 3] rfl)

/-! the reference, as functions of the state: its leaves -/
theorem wn_T {v a b : Int} (h1 : a ≤ v) (h2 : v ≤ b) : wn v a b = true := by simp [wn, h1, h2]
theorem wn_F {v a b : Int} (h : v < a ∨ b < v) : wn v a b = false := by
  cases e : wn v a b with
  | false => rfl
  | true => have := wn_t e; omega
def mPs (S : St) (sh a b t : Int) : Bool := wn sh 0 (S 25 10 - 1) && (wn a 0 7 && (wn b 0 7 && wn t (S 25 15) 100000))
theorem mPs_t {S : St} {sh a b t : Int} (h : mPs S sh a b t = true) : (0 ≤ sh ∧ sh ≤ S 25 10 - 1) ∧ (0 ≤ a ∧ a ≤ 7) ∧ (0 ≤ b ∧ b ≤ 7) ∧ (S 25 15 ≤ t ∧ t ≤ 100000) := by simpa [mPs, wn] using h
def mTk (S : St) (sh q : Int) : Int := S 28 q.toNat / S 35 sh.toNat + (if 0 < S 28 q.toNat % S 35 sh.toNat then 1 else 0)
theorem mTk_b {S : St} (h : Inv S) {sh : Int} (hs : 1 ≤ S 35 sh.toNat) (q : Int) : 0 ≤ mTk S sh q ∧ mTk S sh q ≤ 101 := by
  have h1 := iv_28 h q.toNat
  have h2 := Int.ediv_nonneg (a := S 28 q.toNat) (b := S 35 sh.toNat) (by omega) (by omega)
  have h3 := Int.ediv_le_self (S 35 sh.toNat) (a := S 28 q.toNat) (by omega)
  unfold mTk
  split <;> omega
def mEn (S : St) (k : Int) : Nat → Int
  | 0 => S 38 k.toNat
  | j + 1 => mEn S k j + mTk S (S 37 k.toNat) (S 41 (8 * k + (j : Int)).toNat)
theorem mEn_s (S : St) (k : Int) (j : Nat) : mEn S k (j + 1) = mEn S k j + mTk S (S 37 k.toNat) (S 41 (8 * k + (j : Int)).toNat) := rfl
theorem mEn_c {S : St} (h : Inv S) (k : Int) (hs : 1 ≤ S 35 (S 37 k.toNat).toNat) (j : Nat) : 0 ≤ mEn S k j ∧ mEn S k j ≤ 100000 + 101 * (j : Int) := by
  induction j with
  | zero => have := iv_38 h k.toNat; unfold mEn; omega
  | succ j ih =>
    have h1 := mTk_b h hs (S 41 (8 * k + (j : Int)).toNat)
    rw [mEn_s]
    omega
theorem mEn_b {S : St} (h : Inv S) (k : Int) (hs : 1 ≤ S 35 (S 37 k.toNat).toNat) (j : Nat) (hj : j ≤ 8) : 0 ≤ mEn S k j ∧ mEn S k j ≤ 101000 := by
  have := mEn_c h k hs j
  omega
def mLv (S : St) (k i : Int) : Int := mEn S k i.toNat + mTk S (S 37 k.toNat) (S 41 (8 * k + i).toNat)
theorem mLv_b {S : St} (h : Inv S) (k : Int) (hs : 1 ≤ S 35 (S 37 k.toNat).toNat) (i : Int) (hj : i < 8) : 0 ≤ mLv S k i ∧ mLv S k i ≤ 102000 := by
  have h1 := mEn_b h k hs i.toNat (by omega)
  have h2 := mTk_b h hs (S 41 (8 * k + i).toNat)
  unfold mLv
  omega
def mNt (a : Int) : Nat → Bool
  | 0 => false
  | j + 1 => mNt a j || (decide ((a + (j : Int)) % 1440 < 300) || decide (1200 ≤ (a + (j : Int)) % 1440))
theorem mNt_s (a : Int) (j : Nat) : mNt a (j + 1) = (mNt a j || (decide ((a + (j : Int)) % 1440 < 300) || decide (1200 ≤ (a + (j : Int)) % 1440))) := rfl
set_option maxHeartbeats 4000000 in
set_option maxRecDepth 100000 in
theorem c_md_thrown (l : Launch) (G : Gt) (S : St) : Met l y_md_thrown [.code y_md_thrown b_md_thrown 1 (some .int)] { frames := 0, cells := 0, slots := 0, locals := 0 } (va_Pc [.ref (G.2.1 25)] (fun U => wu G S U)) (qR (S 25 0)) 0 0 (fun _ => False) := by
  refine mt_of (by decide +kernel) (Nat.le_of_ble_eq_true rfl) ?_
  intro p e s m below meth c ls hadm hC hr hlk hex hw hl
  have hC : CallFix p m c b_md_thrown 1 s _ tws "ChannelRulesModel" := hC
  have hl : lv_has ls 1 [(0, .ref (G.2.1 25))] := hl
  refine lv_aload_n hC.1 hC.2.1 d_md_thrown_0 rfl (lv_at hl 0 rfl) ?_
  refine gf_md_65 hC hw d_md_thrown_1 ?_
  exact rt_R hC hr hlk rfl d_md_thrown_4
set_option maxHeartbeats 4000000 in
set_option maxRecDepth 100000 in
theorem c_md_in (l : Launch) (G : Gt) (S : St) (v : Int) (a : Int) (b : Int) (hv : i32 v) (ha : i32 a) (hb : i32 b) : Met l y_md_in [.code y_md_in b_md_in 3 (some .boolean)] { frames := 0, cells := 0, slots := 0, locals := 0 } (va_Pc [.int (iI (v)), .int (iI (a)), .int (iI (b))] (fun U => wu G S U)) (qR (bI (wn v a b))) 0 0 (fun _ => False) := by
  refine mt_of (by decide +kernel) (Nat.le_of_ble_eq_true rfl) ?_
  intro p e s m below meth c ls hadm hC hr hlk hex hw hl
  have hC : CallFix p m c b_md_in 3 s _ tws "ChannelRulesModel" := hC
  have hl : lv_has ls 3 [(0, .int (iI (v))), (1, .int (iI (a))), (2, .int (iI (b)))] := hl
  refine lv_iload_n hC.1 hC.2.1 d_md_in_0 rfl (lv_at hl 0 rfl) ?_
  refine lv_iload_n hC.1 hC.2.1 d_md_in_1 rfl (lv_at hl 1 rfl) ?_
  refine ir_lt (tgt := 14) hC.1 hC.2.1 d_md_in_2 (by decide) ⟨by omega, by omega⟩ ⟨by omega, by omega⟩ (fun c_1 => ?_) (fun c_1 => ?_)
  · skip
    refine lv_iconst (v := iI 0) hC.1 hC.2.1 d_md_in_14 rfl ?_
    exact rt_RZ hC hr hlk (by decide) (by first | rfl | (simp [wn, bI, c_1]; done) | (simp [wn, bI, c_1]; omega) | (simp [wn, bI, c_1] <;> split <;> omega) | omega) d_md_in_15
  · skip
    refine lv_iload_n hC.1 hC.2.1 d_md_in_5 rfl (lv_at hl 0 rfl) ?_
    refine lv_iload_n hC.1 hC.2.1 d_md_in_6 rfl (lv_at hl 2 rfl) ?_
    refine ir_gt (tgt := 14) hC.1 hC.2.1 d_md_in_7 (by decide) ⟨by omega, by omega⟩ ⟨by omega, by omega⟩ (fun c_2 => ?_) (fun c_2 => ?_)
    · skip
      refine lv_iconst (v := iI 0) hC.1 hC.2.1 d_md_in_14 rfl ?_
      exact rt_RZ hC hr hlk (by decide) (by first | rfl | (simp [wn, bI, c_1, c_2]; done) | (simp [wn, bI, c_1, c_2]; omega) | (simp [wn, bI, c_1, c_2] <;> split <;> omega) | omega) d_md_in_15
    · skip
      refine lv_iconst (v := iI 1) hC.1 hC.2.1 d_md_in_10 rfl ?_
      refine lv_goto (tgt := 15) hC.1 hC.2.1 d_md_in_11 (by decide) ?_
      exact rt_RZ hC hr hlk (by decide) (by first | rfl | (simp [wn, bI, c_1, c_2]; done) | (simp [wn, bI, c_1, c_2]; omega) | (simp [wn, bI, c_1, c_2] <;> split <;> omega) | omega) d_md_in_15
set_option maxHeartbeats 4000000 in
set_option maxRecDepth 100000 in
theorem c_md_isPoint (l : Launch) (G : Gt) (S : St) (v : Int) (hv : i32 v) : Met l y_md_isPoint [.code y_md_isPoint b_md_isPoint 1 (some .boolean)] { frames := 0, cells := 0, slots := 0, locals := 0 } (va_Pc [.int (iI (v))] (fun U => wu G S U)) (qR (bI (wn v 0 7))) 0 0 (fun _ => False) := by
  refine mt_of (by decide +kernel) (Nat.le_of_ble_eq_true rfl) ?_
  intro p e s m below meth c ls hadm hC hr hlk hex hw hl
  have hC : CallFix p m c b_md_isPoint 1 s _ tws "ChannelRulesModel" := hC
  have hl : lv_has ls 1 [(0, .int (iI (v)))] := hl
  refine lv_iload_n hC.1 hC.2.1 d_md_isPoint_0 rfl (lv_at hl 0 rfl) ?_
  refine ir_if_lt (tgt := 14) hC.1 hC.2.1 d_md_isPoint_1 (by decide) ⟨by omega, by omega⟩ (fun c_1 => ?_) (fun c_1 => ?_)
  · skip
    refine lv_iconst (v := iI 0) hC.1 hC.2.1 d_md_isPoint_14 rfl ?_
    exact rt_RZ hC hr hlk (by decide) (by rw [wn_F (by omega)]; rfl) d_md_isPoint_15
  · skip
    refine lv_iload_n hC.1 hC.2.1 d_md_isPoint_4 rfl (lv_at hl 0 rfl) ?_
    refine lv_bipush (v := iI 8) hC.1 hC.2.1 d_md_isPoint_5 (by decide +kernel) ?_
    refine ir_ge (tgt := 14) hC.1 hC.2.1 d_md_isPoint_7 (by decide) ⟨by omega, by omega⟩ (by decide) (fun c_2 => ?_) (fun c_2 => ?_)
    · skip
      refine lv_iconst (v := iI 0) hC.1 hC.2.1 d_md_isPoint_14 rfl ?_
      exact rt_RZ hC hr hlk (by decide) (by rw [wn_F (by omega)]; rfl) d_md_isPoint_15
    · skip
      refine lv_iconst (v := iI 1) hC.1 hC.2.1 d_md_isPoint_10 rfl ?_
      refine lv_goto (tgt := 15) hC.1 hC.2.1 d_md_isPoint_11 (by decide) ?_
      exact rt_RZ hC hr hlk (by decide) (by rw [wn_T (by omega) (by omega)]; rfl) d_md_isPoint_15
set_option maxHeartbeats 4000000 in
set_option maxRecDepth 100000 in
theorem c_md_isPiece (l : Launch) (G : Gt) (S : St) (q : Int) (hI : Inv S) (hq : i32 q) : Met l y_md_isPiece [.code y_md_isPiece b_md_isPiece 2 (some .boolean)] { frames := 0, cells := 0, slots := 0, locals := 0 } (va_Pc [.ref (G.2.1 25), .int (iI (q))] (fun U => wu G S U)) (qR (bI (wn q 0 (S 25 1 - 1)))) 0 0 (fun _ => False) := by
  refine mt_of (by decide +kernel) (Nat.le_of_ble_eq_true rfl) ?_
  intro p e s m below meth c ls hadm hC hr hlk hex hw hl
  have hC : CallFix p m c b_md_isPiece 2 s _ tws "ChannelRulesModel" := hC
  have hl : lv_has ls 2 [(0, .ref (G.2.1 25)), (1, .int (iI (q)))] := hl
  refine lv_iload_n hC.1 hC.2.1 d_md_isPiece_0 rfl (lv_at hl 1 rfl) ?_
  refine ir_if_lt (tgt := 16) hC.1 hC.2.1 d_md_isPiece_1 (by decide) ⟨by omega, by omega⟩ (fun c_1 => ?_) (fun c_1 => ?_)
  · skip
    refine lv_iconst (v := iI 0) hC.1 hC.2.1 d_md_isPiece_16 rfl ?_
    exact rt_RZ hC hr hlk (by decide) (by rw [wn_F (by omega)]; rfl) d_md_isPiece_17
  · skip
    refine lv_iload_n hC.1 hC.2.1 d_md_isPiece_4 rfl (lv_at hl 1 rfl) ?_
    refine lv_aload_n hC.1 hC.2.1 d_md_isPiece_5 rfl (lv_at hl 0 rfl) ?_
    refine gf_md_69 hC hw d_md_isPiece_6 ?_
    have b_2 := iv_25p hI
    refine ir_ge (tgt := 16) hC.1 hC.2.1 d_md_isPiece_9 (by decide) ⟨by omega, by omega⟩ ⟨by omega, by omega⟩ (fun c_3 => ?_) (fun c_3 => ?_)
    · skip
      refine lv_iconst (v := iI 0) hC.1 hC.2.1 d_md_isPiece_16 rfl ?_
      exact rt_RZ hC hr hlk (by decide) (by rw [wn_F (by omega)]; rfl) d_md_isPiece_17
    · skip
      refine lv_iconst (v := iI 1) hC.1 hC.2.1 d_md_isPiece_12 rfl ?_
      refine lv_goto (tgt := 17) hC.1 hC.2.1 d_md_isPiece_13 (by decide) ?_
      exact rt_RZ hC hr hlk (by decide) (by rw [wn_T (by omega) (by omega)]; rfl) d_md_isPiece_17
set_option maxHeartbeats 4000000 in
set_option maxRecDepth 100000 in
theorem c_md_isShip (l : Launch) (G : Gt) (S : St) (q : Int) (hI : Inv S) (hq : i32 q) : Met l y_md_isShip [.code y_md_isShip b_md_isShip 2 (some .boolean)] { frames := 0, cells := 0, slots := 0, locals := 0 } (va_Pc [.ref (G.2.1 25), .int (iI (q))] (fun U => wu G S U)) (qR (bI (wn q 0 (S 25 10 - 1)))) 0 0 (fun _ => False) := by
  refine mt_of (by decide +kernel) (Nat.le_of_ble_eq_true rfl) ?_
  intro p e s m below meth c ls hadm hC hr hlk hex hw hl
  have hC : CallFix p m c b_md_isShip 2 s _ tws "ChannelRulesModel" := hC
  have hl : lv_has ls 2 [(0, .ref (G.2.1 25)), (1, .int (iI (q)))] := hl
  refine lv_iload_n hC.1 hC.2.1 d_md_isShip_0 rfl (lv_at hl 1 rfl) ?_
  refine ir_if_lt (tgt := 16) hC.1 hC.2.1 d_md_isShip_1 (by decide) ⟨by omega, by omega⟩ (fun c_1 => ?_) (fun c_1 => ?_)
  · skip
    refine lv_iconst (v := iI 0) hC.1 hC.2.1 d_md_isShip_16 rfl ?_
    exact rt_RZ hC hr hlk (by decide) (by rw [wn_F (by omega)]; rfl) d_md_isShip_17
  · skip
    refine lv_iload_n hC.1 hC.2.1 d_md_isShip_4 rfl (lv_at hl 1 rfl) ?_
    refine lv_aload_n hC.1 hC.2.1 d_md_isShip_5 rfl (lv_at hl 0 rfl) ?_
    refine gf_md_72 hC hw d_md_isShip_6 ?_
    have b_2 := iv_25s hI
    refine ir_ge (tgt := 16) hC.1 hC.2.1 d_md_isShip_9 (by decide) ⟨by omega, by omega⟩ ⟨by omega, by omega⟩ (fun c_3 => ?_) (fun c_3 => ?_)
    · skip
      refine lv_iconst (v := iI 0) hC.1 hC.2.1 d_md_isShip_16 rfl ?_
      exact rt_RZ hC hr hlk (by decide) (by rw [wn_F (by omega)]; rfl) d_md_isShip_17
    · skip
      refine lv_iconst (v := iI 1) hC.1 hC.2.1 d_md_isShip_12 rfl ?_
      refine lv_goto (tgt := 17) hC.1 hC.2.1 d_md_isShip_13 (by decide) ?_
      exact rt_RZ hC hr hlk (by decide) (by rw [wn_T (by omega) (by omega)]; rfl) d_md_isShip_17
set_option maxHeartbeats 4000000 in
set_option maxRecDepth 100000 in
theorem c_md_isSlot (l : Launch) (G : Gt) (S : St) (k : Int) (hI : Inv S) (hk : i32 k) : Met l y_md_isSlot [.code y_md_isSlot b_md_isSlot 2 (some .boolean)] { frames := 0, cells := 0, slots := 0, locals := 0 } (va_Pc [.ref (G.2.1 25), .int (iI (k))] (fun U => wu G S U)) (qR (bI (wn k 1 (S 25 16)))) 0 0 (fun _ => False) := by
  refine mt_of (by decide +kernel) (Nat.le_of_ble_eq_true rfl) ?_
  intro p e s m below meth c ls hadm hC hr hlk hex hw hl
  have hC : CallFix p m c b_md_isSlot 2 s _ tws "ChannelRulesModel" := hC
  have hl : lv_has ls 2 [(0, .ref (G.2.1 25)), (1, .int (iI (k)))] := hl
  refine lv_iload_n hC.1 hC.2.1 d_md_isSlot_0 rfl (lv_at hl 1 rfl) ?_
  refine lv_iconst (v := iI 1) hC.1 hC.2.1 d_md_isSlot_1 rfl ?_
  refine ir_lt (tgt := 17) hC.1 hC.2.1 d_md_isSlot_2 (by decide) ⟨by omega, by omega⟩ (by decide) (fun c_1 => ?_) (fun c_1 => ?_)
  · skip
    refine lv_iconst (v := iI 0) hC.1 hC.2.1 d_md_isSlot_17 rfl ?_
    exact rt_RZ hC hr hlk (by decide) (by rw [wn_F (by omega)]; rfl) d_md_isSlot_18
  · skip
    refine lv_iload_n hC.1 hC.2.1 d_md_isSlot_5 rfl (lv_at hl 1 rfl) ?_
    refine lv_aload_n hC.1 hC.2.1 d_md_isSlot_6 rfl (lv_at hl 0 rfl) ?_
    refine gf_md_75 hC hw d_md_isSlot_7 ?_
    have b_2 := iv_25k hI
    refine ir_gt (tgt := 17) hC.1 hC.2.1 d_md_isSlot_10 (by decide) ⟨by omega, by omega⟩ ⟨by omega, by omega⟩ (fun c_3 => ?_) (fun c_3 => ?_)
    · skip
      refine lv_iconst (v := iI 0) hC.1 hC.2.1 d_md_isSlot_17 rfl ?_
      exact rt_RZ hC hr hlk (by decide) (by rw [wn_F (by omega)]; rfl) d_md_isSlot_18
    · skip
      refine lv_iconst (v := iI 1) hC.1 hC.2.1 d_md_isSlot_13 rfl ?_
      refine lv_goto (tgt := 18) hC.1 hC.2.1 d_md_isSlot_14 (by decide) ?_
      exact rt_RZ hC hr hlk (by decide) (by rw [wn_T (by omega) (by omega)]; rfl) d_md_isSlot_18
set_option maxHeartbeats 4000000 in
set_option maxRecDepth 100000 in
theorem c_md_isTime (l : Launch) (G : Gt) (S : St) (t : Int) (hI : Inv S) (ht : i32 t) : Met l y_md_isTime [.code y_md_isTime b_md_isTime 2 (some .boolean)] { frames := 0, cells := 0, slots := 0, locals := 0 } (va_Pc [.ref (G.2.1 25), .int (iI (t))] (fun U => wu G S U)) (qR (bI (wn t (S 25 15) 100000))) 0 0 (fun _ => False) := by
  refine mt_of (by decide +kernel) (Nat.le_of_ble_eq_true rfl) ?_
  intro p e s m below meth c ls hadm hC hr hlk hex hw hl
  have hC : CallFix p m c b_md_isTime 2 s _ tws "ChannelRulesModel" := hC
  have hl : lv_has ls 2 [(0, .ref (G.2.1 25)), (1, .int (iI (t)))] := hl
  refine lv_iload_n hC.1 hC.2.1 d_md_isTime_0 rfl (lv_at hl 1 rfl) ?_
  refine lv_aload_n hC.1 hC.2.1 d_md_isTime_1 rfl (lv_at hl 0 rfl) ?_
  refine gf_md_78 hC hw d_md_isTime_2 ?_
  have b_1 := iv_25 hI 15
  refine ir_lt (tgt := 18) hC.1 hC.2.1 d_md_isTime_5 (by decide) ⟨by omega, by omega⟩ ⟨by omega, by omega⟩ (fun c_2 => ?_) (fun c_2 => ?_)
  · skip
    refine lv_iconst (v := iI 0) hC.1 hC.2.1 d_md_isTime_18 rfl ?_
    exact rt_RZ hC hr hlk (by decide) (by rw [wn_F (by omega)]; rfl) d_md_isTime_19
  · skip
    refine lv_iload_n hC.1 hC.2.1 d_md_isTime_8 rfl (lv_at hl 1 rfl) ?_
    refine ir_ldc hC 100000 tw_700 (by decide +kernel) d_md_isTime_9 ?_
    refine ir_gt (tgt := 18) hC.1 hC.2.1 d_md_isTime_11 (by decide) ⟨by omega, by omega⟩ (by decide) (fun c_3 => ?_) (fun c_3 => ?_)
    · skip
      refine lv_iconst (v := iI 0) hC.1 hC.2.1 d_md_isTime_18 rfl ?_
      exact rt_RZ hC hr hlk (by decide) (by rw [wn_F (by omega)]; rfl) d_md_isTime_19
    · skip
      refine lv_iconst (v := iI 1) hC.1 hC.2.1 d_md_isTime_14 rfl ?_
      refine lv_goto (tgt := 19) hC.1 hC.2.1 d_md_isTime_15 (by decide) ?_
      exact rt_RZ hC hr hlk (by decide) (by rw [wn_T (by omega) (by omega)]; rfl) d_md_isTime_19
set_option maxHeartbeats 4000000 in
set_option maxRecDepth 100000 in
theorem c_md_isPassage (l : Launch) (G : Gt) (S : St) (sh : Int) (a : Int) (b : Int) (t : Int) (hI : Inv S) (hsh : i32 sh) (ha : i32 a) (hb : i32 b) (ht : i32 t) : Met l y_md_isPassage [.code y_md_isPassage b_md_isPassage 5 (some .boolean)] { frames := 1, cells := 0, slots := 0, locals := 21 } (va_Pc [.ref (G.2.1 25), .int (iI (sh)), .int (iI (a)), .int (iI (b)), .int (iI (t))] (fun U => wu G S U)) (qR (bI (mPs S sh a b t))) 0 0 (fun _ => False) := by
  refine mt_of (by decide +kernel) (Nat.le_of_ble_eq_true rfl) ?_
  intro p e s m below meth c ls hadm hC hr hlk hex hw hl
  have hC : CallFix p m c b_md_isPassage 5 s _ tws "ChannelRulesModel" := hC
  have hl : lv_has ls 5 [(0, .ref (G.2.1 25)), (1, .int (iI (sh))), (2, .int (iI (a))), (3, .int (iI (b))), (4, .int (iI (t)))] := hl
  refine lv_aload_n hC.1 hC.2.1 d_md_isPassage_0 rfl (lv_at hl 0 rfl) ?_
  refine lv_iload_n hC.1 hC.2.1 d_md_isPassage_1 rfl (lv_at hl 1 rfl) ?_
  refine go_R (ca_V (As := [.int (iI (sh))]) (rest := []) hC hw (c_md_isShip l G S sh hI (by omega)) (cv_md_113 hC rfl rfl (Nat.le_of_ble_eq_true rfl) (Nat.le_of_ble_eq_true rfl)) (by decide) rfl rfl rfl hl.1 rfl (Nat.le_of_ble_eq_true rfl) d_md_isPassage_2 ⟨Nat.le_of_ble_eq_true rfl, Nat.le_of_ble_eq_true rfl⟩) ?_
  refine ir_beq (tgt := 35) hC d_md_isPassage_5 (by decide) (fun c_1 => ?_) (fun c_1 => ?_)
  · skip
    refine lv_iconst (v := iI 0) hC.1 hC.2.1 d_md_isPassage_35 rfl ?_
    exact rt_RZ hC hr hlk (by decide) (by first | rfl | (simp [mPs, bI, c_1]; done) | (simp [mPs, bI, c_1]; omega) | (simp [mPs, bI, c_1] <;> split <;> omega) | omega) d_md_isPassage_36
  · skip
    have w_2 := wn_t c_1
    refine lv_iload_n hC.1 hC.2.1 d_md_isPassage_8 rfl (lv_at hl 2 rfl) ?_
    refine go_R (ca_S (As := [.int (iI (a))]) (rest := []) hC hw (c_md_isPoint l G S a (by omega)) (cv_md_82 hC rfl rfl (Nat.le_of_ble_eq_true rfl) (Nat.le_of_ble_eq_true rfl)) rfl hl.1 rfl (Nat.le_of_ble_eq_true rfl) d_md_isPassage_9 ⟨Nat.le_of_ble_eq_true rfl, Nat.le_of_ble_eq_true rfl⟩) ?_
    refine ir_beq (tgt := 35) hC d_md_isPassage_12 (by decide) (fun c_3 => ?_) (fun c_3 => ?_)
    · skip
      refine lv_iconst (v := iI 0) hC.1 hC.2.1 d_md_isPassage_35 rfl ?_
      exact rt_RZ hC hr hlk (by decide) (by first | rfl | (simp [mPs, bI, c_1, c_3]; done) | (simp [mPs, bI, c_1, c_3]; omega) | (simp [mPs, bI, c_1, c_3] <;> split <;> omega) | omega) d_md_isPassage_36
    · skip
      have w_4 := wn_t c_3
      refine lv_iload_n hC.1 hC.2.1 d_md_isPassage_15 rfl (lv_at hl 3 rfl) ?_
      refine go_R (ca_S (As := [.int (iI (b))]) (rest := []) hC hw (c_md_isPoint l G S b (by omega)) (cv_md_82 hC rfl rfl (Nat.le_of_ble_eq_true rfl) (Nat.le_of_ble_eq_true rfl)) rfl hl.1 rfl (Nat.le_of_ble_eq_true rfl) d_md_isPassage_16 ⟨Nat.le_of_ble_eq_true rfl, Nat.le_of_ble_eq_true rfl⟩) ?_
      refine ir_beq (tgt := 35) hC d_md_isPassage_19 (by decide) (fun c_5 => ?_) (fun c_5 => ?_)
      · skip
        refine lv_iconst (v := iI 0) hC.1 hC.2.1 d_md_isPassage_35 rfl ?_
        exact rt_RZ hC hr hlk (by decide) (by first | rfl | (simp [mPs, bI, c_1, c_3, c_5]; done) | (simp [mPs, bI, c_1, c_3, c_5]; omega) | (simp [mPs, bI, c_1, c_3, c_5] <;> split <;> omega) | omega) d_md_isPassage_36
      · skip
        have w_6 := wn_t c_5
        refine lv_aload_n hC.1 hC.2.1 d_md_isPassage_22 rfl (lv_at hl 0 rfl) ?_
        refine lv_iload hC.1 hC.2.1 d_md_isPassage_23 (lv_at hl 4 rfl) ?_
        refine go_R (ca_V (As := [.int (iI (t))]) (rest := []) hC hw (c_md_isTime l G S t hI (by omega)) (cv_md_140 hC rfl rfl (Nat.le_of_ble_eq_true rfl) (Nat.le_of_ble_eq_true rfl)) (by decide) rfl rfl rfl hl.1 rfl (Nat.le_of_ble_eq_true rfl) d_md_isPassage_25 ⟨Nat.le_of_ble_eq_true rfl, Nat.le_of_ble_eq_true rfl⟩) ?_
        refine ir_beq (tgt := 35) hC d_md_isPassage_28 (by decide) (fun c_7 => ?_) (fun c_7 => ?_)
        · skip
          refine lv_iconst (v := iI 0) hC.1 hC.2.1 d_md_isPassage_35 rfl ?_
          exact rt_RZ hC hr hlk (by decide) (by first | rfl | (simp [mPs, bI, c_1, c_3, c_5, c_7]; done) | (simp [mPs, bI, c_1, c_3, c_5, c_7]; omega) | (simp [mPs, bI, c_1, c_3, c_5, c_7] <;> split <;> omega) | omega) d_md_isPassage_36
        · skip
          have w_8 := wn_t c_7
          refine lv_iconst (v := iI 1) hC.1 hC.2.1 d_md_isPassage_31 rfl ?_
          refine lv_goto (tgt := 36) hC.1 hC.2.1 d_md_isPassage_32 (by decide) ?_
          exact rt_RZ hC hr hlk (by decide) (by first | rfl | (simp [mPs, bI, c_1, c_3, c_5, c_7]; done) | (simp [mPs, bI, c_1, c_3, c_5, c_7]; omega) | (simp [mPs, bI, c_1, c_3, c_5, c_7] <;> split <;> omega) | omega) d_md_isPassage_36
set_option maxHeartbeats 4000000 in
set_option maxRecDepth 100000 in
theorem c_md_fails (l : Launch) (G : Gt) (S : St) (w : Int) (hw1 : 0 ≤ w ∧ w ≤ 2) : Met l y_md_fails [.code y_md_fails b_md_fails 2 (some .int)] { frames := 0, cells := 0, slots := 0, locals := 0 } (va_Pc [.ref (G.2.1 25), .int (iI (w))] (fun U => wu G S U)) (qW G (s_up S 25 0 w) (0)) 0 0 (gA G) := by
  refine mt_of (by decide +kernel) (Nat.le_of_ble_eq_true rfl) ?_
  intro p e s m below meth c ls hadm hC hr hlk hex hw hl
  have hC : CallFix p m c b_md_fails 2 s _ tws "ChannelRulesModel" := hC
  have hl : lv_has ls 2 [(0, .ref (G.2.1 25)), (1, .int (iI (w)))] := hl
  refine lv_aload_n hC.1 hC.2.1 d_md_fails_0 rfl (lv_at hl 0 rfl) ?_
  refine lv_iload_n hC.1 hC.2.1 d_md_fails_1 rfl (lv_at hl 1 rfl) ?_
  refine pf_md_65 (x := w) hC hw d_md_fails_2 (fun H locs hw => ?_)
  refine lv_iconst (v := iI 0) hC.1 hC.2.1 d_md_fails_5 rfl ?_
  exact rt_W hC hr hlk hw rfl rfl d_md_fails_6
set_option maxHeartbeats 4000000 in
set_option maxRecDepth 100000 in
theorem c_md_takes (l : Launch) (G : Gt) (S : St) (sh : Int) (q : Int) (hI : Inv S) (hsh : 0 ≤ sh ∧ sh < 12) (hq : 0 ≤ q ∧ q < 12) (hs : 1 ≤ S 35 sh.toNat) : Met l y_md_takes [.code y_md_takes b_md_takes 3 (some .int)] { frames := 0, cells := 0, slots := 0, locals := 0 } (va_Pc [.ref (G.2.1 25), .int (iI (sh)), .int (iI (q))] (fun U => wu G S U)) (qR (mTk S sh q)) 0 0 (fun _ => False) := by
  refine mt_of (by decide +kernel) (Nat.le_of_ble_eq_true rfl) ?_
  intro p e s m below meth c ls hadm hC hr hlk hex hw hl
  have hC : CallFix p m c b_md_takes 3 s _ tws "ChannelRulesModel" := hC
  have hl : lv_has ls 3 [(0, .ref (G.2.1 25)), (1, .int (iI (sh))), (2, .int (iI (q)))] := hl
  refine lv_aload_n hC.1 hC.2.1 d_md_takes_0 rfl (lv_at hl 0 rfl) ?_
  refine gf_md_16 hC hw d_md_takes_1 ?_
  refine lv_iload_n hC.1 hC.2.1 d_md_takes_4 rfl (lv_at hl 2 rfl) ?_
  refine ld_28 hC hw (by omega) (by omega) d_md_takes_5 ?_
  have b_1 := iv_28 hI q.toNat
  refine lv_aload_n hC.1 hC.2.1 d_md_takes_6 rfl (lv_at hl 0 rfl) ?_
  refine gf_md_37 hC hw d_md_takes_7 ?_
  refine lv_iload_n hC.1 hC.2.1 d_md_takes_10 rfl (lv_at hl 1 rfl) ?_
  refine ld_35 hC hw (by omega) (by omega) d_md_takes_11 ?_
  have b_2 := iv_35 hI sh.toNat
  refine ir_div hC.1 hC.2.1 (by omega) (by omega) (by omega) (by omega) d_md_takes_12 ?_
  refine lv_aload_n hC.1 hC.2.1 d_md_takes_13 rfl (lv_at hl 0 rfl) ?_
  refine gf_md_16 hC hw d_md_takes_14 ?_
  refine lv_iload_n hC.1 hC.2.1 d_md_takes_17 rfl (lv_at hl 2 rfl) ?_
  refine ld_28 hC hw (by omega) (by omega) d_md_takes_18 ?_
  have b_3 := iv_28 hI q.toNat
  refine lv_aload_n hC.1 hC.2.1 d_md_takes_19 rfl (lv_at hl 0 rfl) ?_
  refine gf_md_37 hC hw d_md_takes_20 ?_
  refine lv_iload_n hC.1 hC.2.1 d_md_takes_23 rfl (lv_at hl 1 rfl) ?_
  refine ld_35 hC hw (by omega) (by omega) d_md_takes_24 ?_
  have b_4 := iv_35 hI sh.toNat
  refine ir_rem hC.1 hC.2.1 (by omega) (by omega) (by omega) (by omega) d_md_takes_25 ?_
  have m1 := Int.emod_nonneg (S 28 q.toNat) (show S 35 sh.toNat ≠ 0 by omega)
  have m2 := Int.emod_lt_of_pos (S 28 q.toNat) (show 0 < S 35 sh.toNat by omega)
  refine ir_if_le (tgt := 33) hC.1 hC.2.1 d_md_takes_26 (by decide) ⟨by omega, by omega⟩ (fun c_5 => ?_) (fun c_5 => ?_)
  · skip
    refine lv_iconst (v := iI 0) hC.1 hC.2.1 d_md_takes_33 rfl ?_
    refine ir_add hC.1 hC.2.1 d_md_takes_34 ?_
    exact rt_R hC hr hlk (by first | rfl | (simp [mTk, c_5]; done) | (simp [mTk, c_5]; omega) | (simp [mTk, c_5] <;> split <;> omega) | omega) d_md_takes_35
  · skip
    refine lv_iconst (v := iI 1) hC.1 hC.2.1 d_md_takes_29 rfl ?_
    refine lv_goto (tgt := 34) hC.1 hC.2.1 d_md_takes_30 (by decide) ?_
    refine ir_add hC.1 hC.2.1 d_md_takes_34 ?_
    exact rt_R hC hr hlk (by first | rfl | (simp [mTk, c_5]; done) | (simp [mTk, c_5]; omega) | (simp [mTk, c_5] <;> split <;> omega) | omega) d_md_takes_35
set_option maxHeartbeats 4000000 in
set_option maxRecDepth 100000 in
theorem c_md_enters (l : Launch) (G : Gt) (S : St) (k : Int) (i : Int) (hI : Inv S) (hk : 0 ≤ k ∧ k ≤ 30) (hi : 0 ≤ i ∧ i < 8) (hs : 1 ≤ S 35 (S 37 k.toNat).toNat) : Met l y_md_enters [.code y_md_enters b_md_enters 5 (some .int)] { frames := 1, cells := 0, slots := 0, locals := 22 } (va_Pc [.ref (G.2.1 25), .int (iI (k)), .int (iI (i))] (fun U => wu G S U)) (qR (mEn S k i.toNat)) 0 0 (fun _ => False) := by
  refine mt_of (by decide +kernel) (Nat.le_of_ble_eq_true rfl) ?_
  intro p e s m below meth c ls hadm hC hr hlk hex hw hl
  have hC : CallFix p m c b_md_enters 5 s _ tws "ChannelRulesModel" := hC
  have hl : lv_has ls 5 [(0, .ref (G.2.1 25)), (1, .int (iI (k))), (2, .int (iI (i)))] := hl
  refine lv_aload_n hC.1 hC.2.1 d_md_enters_0 rfl (lv_at hl 0 rfl) ?_
  refine gf_md_46 hC hw d_md_enters_1 ?_
  refine lv_iload_n hC.1 hC.2.1 d_md_enters_4 rfl (lv_at hl 1 rfl) ?_
  refine ld_38 hC hw (by omega) (by omega) d_md_enters_5 ?_
  have b_1 := iv_38 hI k.toNat
  refine lv_istore_n (lv' := [(3, .int (iI (S 38 k.toNat))), (0, .ref (G.2.1 25)), (1, .int (iI (k))), (2, .int (iI (i)))]) hC.1 hC.2.1 d_md_enters_6 rfl hl (by decide) rfl (fun ls hl => ?_)
  refine lv_iconst (v := iI 0) hC.1 hC.2.1 d_md_enters_7 rfl ?_
  refine lv_istore (lv' := [(4, .int (iI (0))), (3, .int (iI (S 38 k.toNat))), (0, .ref (G.2.1 25)), (1, .int (iI (k))), (2, .int (iI (i)))]) hC.1 hC.2.1 d_md_enters_8 hl (by decide) rfl (fun ls hl => ?_)
  have loop_10 : ∀ (nn : Nat) (j : Nat) (x3 : Int) (x4 : Int), i.toNat - j < nn → x3 = mEn S k j → x4 = (j : Int) → (j : Int) ≤ i → ∀ (ls : Array Slot), lv_has ls 5 [(4, .int (iI (x4))), (3, .int (iI (x3))), (0, .ref (G.2.1 25)), (1, .int (iI (k))), (2, .int (iI (i)))] → W p l e { frames := 1, cells := 0, slots := 0, locals := 22 } s m ([.ref (G.2.1 25), .int (iI (k)), .int (iI (i))] : List Value).toArray below meth c s.heap [] 0 0 (MQ below (qR (mEn S k i.toNat)) ([.ref (G.2.1 25), .int (iI (k)), .int (iI (i))] : List Value).toArray s 0 0 (fun _ => False)) (F0 m 10 ls []) := by
    intro nn
    induction nn with
    | zero => intros; omega
    | succ nn ih_10 =>
      intro j x3 x4 hms_10 hx3 hx4 hv0 ls hl
      have bk := mEn_b hI k hs j (by omega)
      refine lv_iload hC.1 hC.2.1 d_md_enters_10 (lv_at hl 0 rfl) ?_
      refine lv_iload_n hC.1 hC.2.1 d_md_enters_12 rfl (lv_at hl 4 rfl) ?_
      refine ir_ge (tgt := 47) hC.1 hC.2.1 d_md_enters_13 (by decide) ⟨by omega, by omega⟩ ⟨by omega, by omega⟩ (fun c_2 => ?_) (fun c_2 => ?_)
      · skip
        refine lv_iload_n hC.1 hC.2.1 d_md_enters_47 rfl (lv_at hl 1 rfl) ?_
        exact rt_R hC hr hlk (by rw [hx3, show i.toNat = j by omega]) d_md_enters_48
      · skip
        refine lv_iload_n hC.1 hC.2.1 d_md_enters_16 rfl (lv_at hl 1 rfl) ?_
        refine lv_aload_n hC.1 hC.2.1 d_md_enters_17 rfl (lv_at hl 2 rfl) ?_
        refine lv_aload_n hC.1 hC.2.1 d_md_enters_18 rfl (lv_at hl 2 rfl) ?_
        refine gf_md_43 hC hw d_md_enters_19 ?_
        refine lv_iload_n hC.1 hC.2.1 d_md_enters_22 rfl (lv_at hl 3 rfl) ?_
        refine ld_37 hC hw (by omega) (by omega) d_md_enters_23 ?_
        have b_3 := iv_37 hI k.toNat
        refine lv_aload_n hC.1 hC.2.1 d_md_enters_24 rfl (lv_at hl 2 rfl) ?_
        refine gf_md_56 hC hw d_md_enters_25 ?_
        refine lv_bipush (v := iI 8) hC.1 hC.2.1 d_md_enters_28 (by decide +kernel) ?_
        refine lv_iload_n hC.1 hC.2.1 d_md_enters_30 rfl (lv_at hl 3 rfl) ?_
        refine ir_mul hC.1 hC.2.1 d_md_enters_31 ?_
        refine lv_iload hC.1 hC.2.1 d_md_enters_32 (lv_at hl 0 rfl) ?_
        refine ir_add hC.1 hC.2.1 d_md_enters_34 ?_
        refine ld_41 hC hw (by omega) (by omega) d_md_enters_35 ?_
        have b_4 := iv_41 hI (((8 * k) + x4).toNat)
        refine go_R (ca_V (As := [.int (iI (S 37 k.toNat)), .int (iI (S 41 ((8 * k) + x4).toNat))]) (rest := [.int (iI (x3))]) hC hw (c_md_takes l G S (S 37 k.toNat) (S 41 ((8 * k) + x4).toNat) hI (by omega) (by omega) (by omega)) (cv_md_102 hC rfl rfl (Nat.le_of_ble_eq_true rfl) (Nat.le_of_ble_eq_true rfl)) (by decide) rfl rfl rfl hl.1 rfl (Nat.le_of_ble_eq_true rfl) d_md_enters_36 ⟨Nat.le_of_ble_eq_true rfl, Nat.le_of_ble_eq_true rfl⟩) ?_
        have r_5 := mTk_b hI (show 1 ≤ S 35 (S 37 k.toNat).toNat by omega) (S 41 ((8 * k) + x4).toNat)
        refine ir_add hC.1 hC.2.1 d_md_enters_39 ?_
        refine lv_istore_n (lv' := [(3, .int (iI (x3 + (mTk S (S 37 k.toNat) (S 41 ((8 * k) + x4).toNat))))), (4, .int (iI (x4))), (0, .ref (G.2.1 25)), (1, .int (iI (k))), (2, .int (iI (i)))]) hC.1 hC.2.1 d_md_enters_40 rfl hl (by decide) rfl (fun ls hl => ?_)
        refine lv_iinc (v := iI (x4 + 1)) (lv' := [(4, .int (iI (x4 + 1))), (3, .int (iI (x3 + (mTk S (S 37 k.toNat) (S 41 ((8 * k) + x4).toNat))))), (0, .ref (G.2.1 25)), (1, .int (iI (k))), (2, .int (iI (i)))]) hC.1 hC.2.1 d_md_enters_41 hl (k := 1) rfl (iI_add _ _) (by decide) rfl (fun ls hl => ?_)
        refine lv_goto (tgt := 10) hC.1 hC.2.1 d_md_enters_44 (by decide) ?_
        exact ih_10 (j + 1) _ _ (by omega) (by have g := mEn_s S k j; rw [← hx4] at g; rw [g, hx3]) (by first | rfl | omega) (by omega) _ (lv_sub hl [0, 1, 2, 3, 4] rfl)
  exact loop_10 _ 0 _ _ (Nat.lt_succ_self _) (by first | rfl | omega) (by first | rfl | omega) (by omega) _ (lv_sub hl [0, 1, 2, 3, 4] rfl)
set_option maxHeartbeats 4000000 in
set_option maxRecDepth 100000 in
theorem c_md_leaves (l : Launch) (G : Gt) (S : St) (k : Int) (i : Int) (hI : Inv S) (hk : 0 ≤ k ∧ k ≤ 30) (hi : 0 ≤ i ∧ i < 7) (hs : 1 ≤ S 35 (S 37 k.toNat).toNat) : Met l y_md_leaves [.code y_md_leaves b_md_leaves 3 (some .int)] { frames := 2, cells := 0, slots := 0, locals := 46 } (va_Pc [.ref (G.2.1 25), .int (iI (k)), .int (iI (i))] (fun U => wu G S U)) (qR (mLv S k i)) 0 0 (fun _ => False) := by
  refine mt_of (by decide +kernel) (Nat.le_of_ble_eq_true rfl) ?_
  intro p e s m below meth c ls hadm hC hr hlk hex hw hl
  have hC : CallFix p m c b_md_leaves 3 s _ tws "ChannelRulesModel" := hC
  have hl : lv_has ls 3 [(0, .ref (G.2.1 25)), (1, .int (iI (k))), (2, .int (iI (i)))] := hl
  refine lv_aload_n hC.1 hC.2.1 d_md_leaves_0 rfl (lv_at hl 0 rfl) ?_
  refine lv_iload_n hC.1 hC.2.1 d_md_leaves_1 rfl (lv_at hl 1 rfl) ?_
  refine lv_iload_n hC.1 hC.2.1 d_md_leaves_2 rfl (lv_at hl 2 rfl) ?_
  refine go_R (ca_V (As := [.int (iI (k)), .int (iI (i))]) (rest := []) hC hw (c_md_enters l G S k i hI (by omega) (by omega) (by omega)) (cv_md_119 hC rfl rfl (Nat.le_of_ble_eq_true rfl) (Nat.le_of_ble_eq_true rfl)) (by decide) rfl rfl rfl hl.1 rfl (Nat.le_of_ble_eq_true rfl) d_md_leaves_3 ⟨Nat.le_of_ble_eq_true rfl, Nat.le_of_ble_eq_true rfl⟩) ?_
  have r_1 := mEn_b hI k (show 1 ≤ S 35 (S 37 k.toNat).toNat by omega) i.toNat (by omega)
  refine lv_aload_n hC.1 hC.2.1 d_md_leaves_6 rfl (lv_at hl 0 rfl) ?_
  refine lv_aload_n hC.1 hC.2.1 d_md_leaves_7 rfl (lv_at hl 0 rfl) ?_
  refine gf_md_43 hC hw d_md_leaves_8 ?_
  refine lv_iload_n hC.1 hC.2.1 d_md_leaves_11 rfl (lv_at hl 1 rfl) ?_
  refine ld_37 hC hw (by omega) (by omega) d_md_leaves_12 ?_
  have b_2 := iv_37 hI k.toNat
  refine lv_aload_n hC.1 hC.2.1 d_md_leaves_13 rfl (lv_at hl 0 rfl) ?_
  refine gf_md_56 hC hw d_md_leaves_14 ?_
  refine lv_bipush (v := iI 8) hC.1 hC.2.1 d_md_leaves_17 (by decide +kernel) ?_
  refine lv_iload_n hC.1 hC.2.1 d_md_leaves_19 rfl (lv_at hl 1 rfl) ?_
  refine ir_mul hC.1 hC.2.1 d_md_leaves_20 ?_
  refine lv_iload_n hC.1 hC.2.1 d_md_leaves_21 rfl (lv_at hl 2 rfl) ?_
  refine ir_add hC.1 hC.2.1 d_md_leaves_22 ?_
  refine ld_41 hC hw (by omega) (by omega) d_md_leaves_23 ?_
  have b_3 := iv_41 hI (((8 * k) + i).toNat)
  refine go_R (ca_V (As := [.int (iI (S 37 k.toNat)), .int (iI (S 41 ((8 * k) + i).toNat))]) (rest := [.int (iI (mEn S k i.toNat))]) hC hw (c_md_takes l G S (S 37 k.toNat) (S 41 ((8 * k) + i).toNat) hI (by omega) (by omega) (by omega)) (cv_md_102 hC rfl rfl (Nat.le_of_ble_eq_true rfl) (Nat.le_of_ble_eq_true rfl)) (by decide) rfl rfl rfl hl.1 rfl (Nat.le_of_ble_eq_true rfl) d_md_leaves_24 ⟨Nat.le_of_ble_eq_true rfl, Nat.le_of_ble_eq_true rfl⟩) ?_
  have r_4 := mTk_b hI (show 1 ≤ S 35 (S 37 k.toNat).toNat by omega) (S 41 ((8 * k) + i).toNat)
  refine ir_add hC.1 hC.2.1 d_md_leaves_27 ?_
  exact rt_R hC hr hlk (by first | rfl | (simp [mLv]; done) | (simp [mLv]; omega) | (simp [mLv] <;> split <;> omega) | omega) d_md_leaves_28
set_option maxHeartbeats 4000000 in
set_option maxRecDepth 100000 in
theorem c_md_isNight (l : Launch) (G : Gt) (S : St) (a : Int) (b : Int) (ha : 0 ≤ a ∧ a ≤ 1000000) (hb : 0 ≤ b ∧ b ≤ 1000000) : Met l y_md_isNight [.code y_md_isNight b_md_isNight 4 (some .boolean)] { frames := 0, cells := 0, slots := 0, locals := 0 } (va_Pc [.int (iI (a)), .int (iI (b))] (fun U => wu G S U)) (qR (bI (mNt a (b - a).toNat))) 0 0 (fun _ => False) := by
  refine mt_of (by decide +kernel) (Nat.le_of_ble_eq_true rfl) ?_
  intro p e s m below meth c ls hadm hC hr hlk hex hw hl
  have hC : CallFix p m c b_md_isNight 4 s _ tws "ChannelRulesModel" := hC
  have hl : lv_has ls 4 [(0, .int (iI (a))), (1, .int (iI (b)))] := hl
  refine lv_iconst (v := iI 0) hC.1 hC.2.1 d_md_isNight_0 rfl ?_
  refine lv_istore_n (lv' := [(2, .int (iI (0))), (0, .int (iI (a))), (1, .int (iI (b)))]) hC.1 hC.2.1 d_md_isNight_1 rfl hl (by decide) rfl (fun ls hl => ?_)
  refine lv_iload_n hC.1 hC.2.1 d_md_isNight_2 rfl (lv_at hl 1 rfl) ?_
  refine lv_istore_n (lv' := [(3, .int (iI (a))), (2, .int (iI (0))), (0, .int (iI (a))), (1, .int (iI (b)))]) hC.1 hC.2.1 d_md_isNight_3 rfl hl (by decide) rfl (fun ls hl => ?_)
  have loop_4 : ∀ (nn : Nat) (j : Nat) (x2 : Int) (x3 : Int), (b - a).toNat - j < nn → x2 = bI (mNt a j) → x3 = a + (j : Int) → j ≤ (b - a).toNat → ∀ (ls : Array Slot), lv_has ls 4 [(3, .int (iI (x3))), (2, .int (iI (x2))), (0, .int (iI (a))), (1, .int (iI (b)))] → W p l e { frames := 0, cells := 0, slots := 0, locals := 0 } s m ([.int (iI (a)), .int (iI (b))] : List Value).toArray below meth c s.heap [] 0 0 (MQ below (qR (bI (mNt a (b - a).toNat))) ([.int (iI (a)), .int (iI (b))] : List Value).toArray s 0 0 (fun _ => False)) (F0 m 4 ls []) := by
    intro nn
    induction nn with
    | zero => intros; omega
    | succ nn ih_4 =>
      intro j x2 x3 hms_4 hx2 hx3 hv0 ls hl
      have bk := bI_b (mNt a j)
      refine lv_iload_n hC.1 hC.2.1 d_md_isNight_4 rfl (lv_at hl 0 rfl) ?_
      refine lv_iload_n hC.1 hC.2.1 d_md_isNight_5 rfl (lv_at hl 3 rfl) ?_
      refine ir_ge (tgt := 47) hC.1 hC.2.1 d_md_isNight_6 (by decide) ⟨by omega, by omega⟩ ⟨by omega, by omega⟩ (fun c_1 => ?_) (fun c_1 => ?_)
      · skip
        refine lv_iload_n hC.1 hC.2.1 d_md_isNight_47 rfl (lv_at hl 1 rfl) ?_
        exact rt_RZ hC hr hlk (by omega) (by rw [hx2, show (b - a).toNat = j by omega]) d_md_isNight_48
      · skip
        refine lv_iload_n hC.1 hC.2.1 d_md_isNight_9 rfl (lv_at hl 1 rfl) ?_
        refine ir_if_ne (tgt := 35) hC.1 hC.2.1 d_md_isNight_10 (by decide) ⟨by omega, by omega⟩ (fun c_2 => ?_) (fun c_2 => ?_)
        · skip
          refine lv_iconst (v := iI 1) hC.1 hC.2.1 d_md_isNight_35 rfl ?_
          refine lv_goto (tgt := 40) hC.1 hC.2.1 d_md_isNight_36 (by decide) ?_
          refine lv_istore_n (lv' := [(2, .int (iI (1))), (3, .int (iI (x3))), (0, .int (iI (a))), (1, .int (iI (b)))]) hC.1 hC.2.1 d_md_isNight_40 rfl hl (by decide) rfl (fun ls hl => ?_)
          refine lv_iinc (v := iI (x3 + 1)) (lv' := [(3, .int (iI (x3 + 1))), (2, .int (iI (1))), (0, .int (iI (a))), (1, .int (iI (b)))]) hC.1 hC.2.1 d_md_isNight_41 hl (k := 1) rfl (iI_add _ _) (by decide) rfl (fun ls hl => ?_)
          refine lv_goto (tgt := 4) hC.1 hC.2.1 d_md_isNight_44 (by decide) ?_
          exact ih_4 (j + 1) _ _ (by omega) (by rw [mNt_s, ← hx3]; cases hn : mNt a j <;> rw [hn] at hx2 <;> simp [bI] at hx2 ⊢ <;> omega) (by first | rfl | omega) (by omega) _ (lv_sub hl [0, 1, 2, 3] rfl)
        · skip
          refine lv_iload_n hC.1 hC.2.1 d_md_isNight_13 rfl (lv_at hl 0 rfl) ?_
          refine lv_sipush (v := iI 1440) hC.1 hC.2.1 d_md_isNight_14 (by decide +kernel) ?_
          refine ir_rem hC.1 hC.2.1 (by omega) (by omega) (by omega) (by omega) d_md_isNight_17 ?_
          refine lv_sipush (v := iI 300) hC.1 hC.2.1 d_md_isNight_18 (by decide +kernel) ?_
          refine ir_lt (tgt := 35) hC.1 hC.2.1 d_md_isNight_21 (by decide) ⟨by omega, by omega⟩ (by decide) (fun c_3 => ?_) (fun c_3 => ?_)
          · skip
            refine lv_iconst (v := iI 1) hC.1 hC.2.1 d_md_isNight_35 rfl ?_
            refine lv_goto (tgt := 40) hC.1 hC.2.1 d_md_isNight_36 (by decide) ?_
            refine lv_istore_n (lv' := [(2, .int (iI (1))), (3, .int (iI (x3))), (0, .int (iI (a))), (1, .int (iI (b)))]) hC.1 hC.2.1 d_md_isNight_40 rfl hl (by decide) rfl (fun ls hl => ?_)
            refine lv_iinc (v := iI (x3 + 1)) (lv' := [(3, .int (iI (x3 + 1))), (2, .int (iI (1))), (0, .int (iI (a))), (1, .int (iI (b)))]) hC.1 hC.2.1 d_md_isNight_41 hl (k := 1) rfl (iI_add _ _) (by decide) rfl (fun ls hl => ?_)
            refine lv_goto (tgt := 4) hC.1 hC.2.1 d_md_isNight_44 (by decide) ?_
            exact ih_4 (j + 1) _ _ (by omega) (by rw [mNt_s, ← hx3]; cases hn : mNt a j <;> rw [hn] at hx2 <;> simp [bI] at hx2 ⊢ <;> omega) (by first | rfl | omega) (by omega) _ (lv_sub hl [0, 1, 2, 3] rfl)
          · skip
            refine lv_iload_n hC.1 hC.2.1 d_md_isNight_24 rfl (lv_at hl 0 rfl) ?_
            refine lv_sipush (v := iI 1440) hC.1 hC.2.1 d_md_isNight_25 (by decide +kernel) ?_
            refine ir_rem hC.1 hC.2.1 (by omega) (by omega) (by omega) (by omega) d_md_isNight_28 ?_
            refine lv_sipush (v := iI 1200) hC.1 hC.2.1 d_md_isNight_29 (by decide +kernel) ?_
            refine ir_lt (tgt := 39) hC.1 hC.2.1 d_md_isNight_32 (by decide) ⟨by omega, by omega⟩ (by decide) (fun c_4 => ?_) (fun c_4 => ?_)
            · skip
              refine lv_iconst (v := iI 0) hC.1 hC.2.1 d_md_isNight_39 rfl ?_
              refine lv_istore_n (lv' := [(2, .int (iI (0))), (3, .int (iI (x3))), (0, .int (iI (a))), (1, .int (iI (b)))]) hC.1 hC.2.1 d_md_isNight_40 rfl hl (by decide) rfl (fun ls hl => ?_)
              refine lv_iinc (v := iI (x3 + 1)) (lv' := [(3, .int (iI (x3 + 1))), (2, .int (iI (0))), (0, .int (iI (a))), (1, .int (iI (b)))]) hC.1 hC.2.1 d_md_isNight_41 hl (k := 1) rfl (iI_add _ _) (by decide) rfl (fun ls hl => ?_)
              refine lv_goto (tgt := 4) hC.1 hC.2.1 d_md_isNight_44 (by decide) ?_
              exact ih_4 (j + 1) _ _ (by omega) (by rw [mNt_s, ← hx3]; cases hn : mNt a j <;> rw [hn] at hx2 <;> simp [bI] at hx2 ⊢ <;> omega) (by first | rfl | omega) (by omega) _ (lv_sub hl [0, 1, 2, 3] rfl)
            · skip
              refine lv_iconst (v := iI 1) hC.1 hC.2.1 d_md_isNight_35 rfl ?_
              refine lv_goto (tgt := 40) hC.1 hC.2.1 d_md_isNight_36 (by decide) ?_
              refine lv_istore_n (lv' := [(2, .int (iI (1))), (3, .int (iI (x3))), (0, .int (iI (a))), (1, .int (iI (b)))]) hC.1 hC.2.1 d_md_isNight_40 rfl hl (by decide) rfl (fun ls hl => ?_)
              refine lv_iinc (v := iI (x3 + 1)) (lv' := [(3, .int (iI (x3 + 1))), (2, .int (iI (1))), (0, .int (iI (a))), (1, .int (iI (b)))]) hC.1 hC.2.1 d_md_isNight_41 hl (k := 1) rfl (iI_add _ _) (by decide) rfl (fun ls hl => ?_)
              refine lv_goto (tgt := 4) hC.1 hC.2.1 d_md_isNight_44 (by decide) ?_
              exact ih_4 (j + 1) _ _ (by omega) (by rw [mNt_s, ← hx3]; cases hn : mNt a j <;> rw [hn] at hx2 <;> simp [bI] at hx2 ⊢ <;> omega) (by first | rfl | omega) (by omega) _ (lv_sub hl [0, 1, 2, 3] rfl)
  exact loop_4 _ 0 _ _ (Nat.lt_succ_self _) (by first | rfl | omega) (by first | rfl | omega) (by omega) _ (lv_sub hl [0, 1, 2, 3] rfl)

/-! the class, as functions of the state -/
def wn (v a b : Int) : Bool := decide (a ≤ v) && decide (v ≤ b)
theorem wn_t {v a b : Int} (h : wn v a b = true) : a ≤ v ∧ v ≤ b := by simpa [wn] using h
def shm (a b c d : Int) : Bool := decide (a < d) && decide (c < b)
def pOf (S : St) (row i : Int) : Int := S 21 (row * 7 + i).toNat
def fOf (S : St) (row i : Int) : Int := S 22 (row * 7 + i).toNat
def enA (S : St) (row i : Int) : Int := S 19 row.toNat + S 23 (row * 8 + i).toNat
def lvA (S : St) (row i : Int) : Int := S 19 row.toNat + S 23 (row * 8 + i + 1).toNat
def stO (S : St) (row q : Int) : Int := S 24 (row * 12 + q).toNat - 1
def rOf (S : St) (q k : Int) : Int := S 10 (q * 5 + k).toNat
def ovt (S : St) (row i ro j : Int) : Bool := !(decide (enA S row i - enA S ro j < 0) && decide (lvA S row i - lvA S ro j < 0)) && !(decide (0 < enA S row i - enA S ro j) && decide (0 < lvA S row i - lvA S ro j))
def gSum (S : St) : Nat → Int
  | 0 => 0
  | k + 1 => gSum S k + S 17 (k + 1)
theorem gSum_s (S : St) (k : Nat) : gSum S (k + 1) = gSum S k + S 17 (k + 1) := rfl
def oEnd (S : St) (q t : Int) : Int := if S 6 q.toNat = t then S 7 q.toNat else if S 7 q.toNat = t then S 6 q.toNat else -1
theorem pOf_b {S : St} (h : Inv S) (row i : Int) : 0 ≤ pOf S row i ∧ pOf S row i ≤ 11 := iv_21 h _
theorem fOf_b {S : St} (h : Inv S) (row i : Int) : 0 ≤ fOf S row i ∧ fOf S row i ≤ 1 := iv_22 h _
theorem rOf_b {S : St} (h : Inv S) (q k : Int) : 0 ≤ rOf S q k ∧ rOf S q k ≤ 100 := iv_10 h _
theorem enA_b {S : St} (h : Inv S) (row i : Int) : 0 ≤ enA S row i ∧ enA S row i ≤ 100700 := by
  have h1 := iv_19 h row.toNat
  have h2 := iv_23 h (row * 8 + i).toNat
  unfold enA
  omega
theorem lvA_b {S : St} (h : Inv S) (row i : Int) : 0 ≤ lvA S row i ∧ lvA S row i ≤ 100700 := by
  have h1 := iv_19 h row.toNat
  have h2 := iv_23 h (row * 8 + i + 1).toNat
  unfold lvA
  omega
theorem stO_b {S : St} (h : Inv S) (row q : Int) : -1 ≤ stO S row q ∧ stO S row q ≤ 6 := by
  have h1 := iv_24 h (row * 12 + q).toNat
  unfold stO
  omega
theorem oEnd_b {S : St} (h : Inv S) (q t : Int) : -1 ≤ oEnd S q t ∧ oEnd S q t ≤ 7 := by
  have h1 := iv_6 h q.toNat
  have h2 := iv_7 h q.toNat
  unfold oEnd
  split
  · omega
  · split <;> omega
theorem gSum_b {S : St} (h : Inv S) (k : Nat) : 0 ≤ gSum S k ∧ gSum S k ≤ k := by
  induction k with
  | zero => simp [gSum]
  | succ k ih =>
    have h1 := iv_17 h (k + 1)
    simp only [gSum]
    omega
set_option maxHeartbeats 4000000 in
set_option maxRecDepth 100000 in
theorem c_cr_isWithin (l : Launch) (G : Gt) (S : St) (v : Int) (a : Int) (b : Int) (hv : i32 v) (ha : i32 a) (hb : i32 b) : Met l y_cr_isWithin [.code y_cr_isWithin b_cr_isWithin 3 (some .boolean)] { frames := 0, cells := 0, slots := 0, locals := 0 } (va_Pc [.int (iI (v)), .int (iI (a)), .int (iI (b))] (fun U => wu G S U)) (qR (bI (wn v a b))) 0 0 (fun _ => False) := by
  refine mt_of (by decide +kernel) (Nat.le_of_ble_eq_true rfl) ?_
  intro p e s m below meth c ls hadm hC hr hlk hex hw hl
  have hC : CallFix p m c b_cr_isWithin 3 s _ tws "ChannelRules" := hC
  have hl : lv_has ls 3 [(0, .int (iI (v))), (1, .int (iI (a))), (2, .int (iI (b)))] := hl
  refine lv_iload_n hC.1 hC.2.1 d_cr_isWithin_0 rfl (lv_at hl 0 rfl) ?_
  refine lv_iload_n hC.1 hC.2.1 d_cr_isWithin_1 rfl (lv_at hl 1 rfl) ?_
  refine ir_lt (tgt := 14) hC.1 hC.2.1 d_cr_isWithin_2 (by decide) ⟨by omega, by omega⟩ ⟨by omega, by omega⟩ (fun c_1 => ?_) (fun c_1 => ?_)
  · skip
    refine lv_iconst (v := iI 0) hC.1 hC.2.1 d_cr_isWithin_14 rfl ?_
    exact rt_RZ hC hr hlk (by decide) (by first | rfl | (simp [wn, bI, c_1]; done) | (simp [wn, bI, c_1]; omega) | (simp [wn, bI, c_1] <;> split <;> omega) | omega) d_cr_isWithin_15
  · skip
    refine lv_iload_n hC.1 hC.2.1 d_cr_isWithin_5 rfl (lv_at hl 0 rfl) ?_
    refine lv_iload_n hC.1 hC.2.1 d_cr_isWithin_6 rfl (lv_at hl 2 rfl) ?_
    refine ir_gt (tgt := 14) hC.1 hC.2.1 d_cr_isWithin_7 (by decide) ⟨by omega, by omega⟩ ⟨by omega, by omega⟩ (fun c_2 => ?_) (fun c_2 => ?_)
    · skip
      refine lv_iconst (v := iI 0) hC.1 hC.2.1 d_cr_isWithin_14 rfl ?_
      exact rt_RZ hC hr hlk (by decide) (by first | rfl | (simp [wn, bI, c_1, c_2]; done) | (simp [wn, bI, c_1, c_2]; omega) | (simp [wn, bI, c_1, c_2] <;> split <;> omega) | omega) d_cr_isWithin_15
    · skip
      refine lv_iconst (v := iI 1) hC.1 hC.2.1 d_cr_isWithin_10 rfl ?_
      refine lv_goto (tgt := 15) hC.1 hC.2.1 d_cr_isWithin_11 (by decide) ?_
      exact rt_RZ hC hr hlk (by decide) (by first | rfl | (simp [wn, bI, c_1, c_2]; done) | (simp [wn, bI, c_1, c_2]; omega) | (simp [wn, bI, c_1, c_2] <;> split <;> omega) | omega) d_cr_isWithin_15
set_option maxHeartbeats 4000000 in
set_option maxRecDepth 100000 in
theorem c_cr_shareMinute (l : Launch) (G : Gt) (S : St) (a : Int) (b : Int) (c1 : Int) (d1 : Int) (ha : i32 a) (hb : i32 b) (hc1 : i32 c1) (hd1 : i32 d1) : Met l y_cr_shareMinute [.code y_cr_shareMinute b_cr_shareMinute 4 (some .boolean)] { frames := 0, cells := 0, slots := 0, locals := 0 } (va_Pc [.int (iI (a)), .int (iI (b)), .int (iI (c1)), .int (iI (d1))] (fun U => wu G S U)) (qR (bI (shm a b c1 d1))) 0 0 (fun _ => False) := by
  refine mt_of (by decide +kernel) (Nat.le_of_ble_eq_true rfl) ?_
  intro p e s m below meth c ls hadm hC hr hlk hex hw hl
  have hC : CallFix p m c b_cr_shareMinute 4 s _ tws "ChannelRules" := hC
  have hl : lv_has ls 4 [(0, .int (iI (a))), (1, .int (iI (b))), (2, .int (iI (c1))), (3, .int (iI (d1)))] := hl
  refine lv_iload_n hC.1 hC.2.1 d_cr_shareMinute_0 rfl (lv_at hl 0 rfl) ?_
  refine lv_iload_n hC.1 hC.2.1 d_cr_shareMinute_1 rfl (lv_at hl 3 rfl) ?_
  refine ir_ge (tgt := 14) hC.1 hC.2.1 d_cr_shareMinute_2 (by decide) ⟨by omega, by omega⟩ ⟨by omega, by omega⟩ (fun c_1 => ?_) (fun c_1 => ?_)
  · skip
    refine lv_iconst (v := iI 0) hC.1 hC.2.1 d_cr_shareMinute_14 rfl ?_
    exact rt_RZ hC hr hlk (by decide) (by first | rfl | (simp [shm, bI, c_1]; done) | (simp [shm, bI, c_1]; omega) | (simp [shm, bI, c_1] <;> split <;> omega) | omega) d_cr_shareMinute_15
  · skip
    refine lv_iload_n hC.1 hC.2.1 d_cr_shareMinute_5 rfl (lv_at hl 2 rfl) ?_
    refine lv_iload_n hC.1 hC.2.1 d_cr_shareMinute_6 rfl (lv_at hl 1 rfl) ?_
    refine ir_ge (tgt := 14) hC.1 hC.2.1 d_cr_shareMinute_7 (by decide) ⟨by omega, by omega⟩ ⟨by omega, by omega⟩ (fun c_2 => ?_) (fun c_2 => ?_)
    · skip
      refine lv_iconst (v := iI 0) hC.1 hC.2.1 d_cr_shareMinute_14 rfl ?_
      exact rt_RZ hC hr hlk (by decide) (by first | rfl | (simp [shm, bI, c_1, c_2]; done) | (simp [shm, bI, c_1, c_2]; omega) | (simp [shm, bI, c_1, c_2] <;> split <;> omega) | omega) d_cr_shareMinute_15
    · skip
      refine lv_iconst (v := iI 1) hC.1 hC.2.1 d_cr_shareMinute_10 rfl ?_
      refine lv_goto (tgt := 15) hC.1 hC.2.1 d_cr_shareMinute_11 (by decide) ?_
      exact rt_RZ hC hr hlk (by decide) (by first | rfl | (simp [shm, bI, c_1, c_2]; done) | (simp [shm, bI, c_1, c_2]; omega) | (simp [shm, bI, c_1, c_2] <;> split <;> omega) | omega) d_cr_shareMinute_15
set_option maxHeartbeats 4000000 in
set_option maxRecDepth 100000 in
theorem c_cr_isPoint (l : Launch) (G : Gt) (S : St) (v : Int) (hv : i32 v) : Met l y_cr_isPoint [.code y_cr_isPoint b_cr_isPoint 1 (some .boolean)] { frames := 1, cells := 0, slots := 0, locals := 22 } (va_Pc [.int (iI (v))] (fun U => wu G S U)) (qR (bI (wn v 0 7))) 0 0 (fun _ => False) := by
  refine mt_of (by decide +kernel) (Nat.le_of_ble_eq_true rfl) ?_
  intro p e s m below meth c ls hadm hC hr hlk hex hw hl
  have hC : CallFix p m c b_cr_isPoint 1 s _ tws "ChannelRules" := hC
  have hl : lv_has ls 1 [(0, .int (iI (v)))] := hl
  refine lv_iload_n hC.1 hC.2.1 d_cr_isPoint_0 rfl (lv_at hl 0 rfl) ?_
  refine lv_iconst (v := iI 0) hC.1 hC.2.1 d_cr_isPoint_1 rfl ?_
  refine lv_bipush (v := iI 7) hC.1 hC.2.1 d_cr_isPoint_2 (by decide +kernel) ?_
  refine go_R (ca_S (As := [.int (iI (v)), .int (iI (0)), .int (iI (7))]) (rest := []) hC hw (c_cr_isWithin l G S v 0 7 (by omega) (by omega) (by omega)) (cv_cr_56 hC rfl rfl (Nat.le_of_ble_eq_true rfl) (Nat.le_of_ble_eq_true rfl)) rfl hl.1 rfl (Nat.le_of_ble_eq_true rfl) d_cr_isPoint_4 ⟨Nat.le_of_ble_eq_true rfl, Nat.le_of_ble_eq_true rfl⟩) ?_
  exact rt_RZ hC hr hlk (bI_01 _) (by first | rfl | (simp [wn, bI]; done) | (simp [wn, bI]; omega) | (simp [wn, bI] <;> split <;> omega) | omega) d_cr_isPoint_7
set_option maxHeartbeats 4000000 in
set_option maxRecDepth 100000 in
theorem c_ps_hasSlot (l : Launch) (G : Gt) (S : St) (k : Int) (hI : Inv S) (hk : i32 k) : Met l y_ps_hasSlot [.code y_ps_hasSlot b_ps_hasSlot 2 (some .boolean)] { frames := 1, cells := 0, slots := 0, locals := 22 } (va_Pc [.ref (G.2.1 3), .int (iI (k))] (fun U => wu G S U)) (qR (bI (wn k 1 (S 3 0)))) 0 0 (fun _ => False) := by
  refine mt_of (by decide +kernel) (Nat.le_of_ble_eq_true rfl) ?_
  intro p e s m below meth c ls hadm hC hr hlk hex hw hl
  have hC : CallFix p m c b_ps_hasSlot 2 s _ tws "ChannelRules$Passages" := hC
  have hl : lv_has ls 2 [(0, .ref (G.2.1 3)), (1, .int (iI (k)))] := hl
  refine lv_iload_n hC.1 hC.2.1 d_ps_hasSlot_0 rfl (lv_at hl 1 rfl) ?_
  refine lv_iconst (v := iI 1) hC.1 hC.2.1 d_ps_hasSlot_1 rfl ?_
  refine lv_aload_n hC.1 hC.2.1 d_ps_hasSlot_2 rfl (lv_at hl 0 rfl) ?_
  refine gf_ps_9 hC hw d_ps_hasSlot_3 ?_
  have b_1 := iv_3 hI 0
  refine go_R (ca_N (As := [.int (iI (k)), .int (iI (1)), .int (iI (S 3 0))]) (rest := []) hC hw (c_cr_isWithin l G S k 1 (S 3 0) (by omega) (by omega) (by omega)) (cv_ps_41 hC rfl rfl (Nat.le_of_ble_eq_true rfl) (Nat.le_of_ble_eq_true rfl)) rfl hl.1 rfl (Nat.le_of_ble_eq_true rfl) d_ps_hasSlot_6 ⟨Nat.le_of_ble_eq_true rfl, Nat.le_of_ble_eq_true rfl⟩) ?_
  exact rt_RZ hC hr hlk (bI_01 _) (by first | rfl | (simp [wn, bI]; done) | (simp [wn, bI]; omega) | (simp [wn, bI] <;> split <;> omega) | omega) d_ps_hasSlot_9
set_option maxHeartbeats 4000000 in
set_option maxRecDepth 100000 in
theorem c_ps_pieceOf (l : Launch) (G : Gt) (S : St) (row : Int) (i : Int) (hI : Inv S) (hrow : 0 ≤ row ∧ row ≤ 30) (hi : 0 ≤ i ∧ i < 7) : Met l y_ps_pieceOf [.code y_ps_pieceOf b_ps_pieceOf 3 (some .int)] { frames := 0, cells := 0, slots := 0, locals := 0 } (va_Pc [.ref (G.2.1 3), .int (iI (row)), .int (iI (i))] (fun U => wu G S U)) (qR (pOf S row i)) 0 0 (fun _ => False) := by
  refine mt_of (by decide +kernel) (Nat.le_of_ble_eq_true rfl) ?_
  intro p e s m below meth c ls hadm hC hr hlk hex hw hl
  have hC : CallFix p m c b_ps_pieceOf 3 s _ tws "ChannelRules$Passages" := hC
  have hl : lv_has ls 3 [(0, .ref (G.2.1 3)), (1, .int (iI (row))), (2, .int (iI (i)))] := hl
  refine lv_aload_n hC.1 hC.2.1 d_ps_pieceOf_0 rfl (lv_at hl 0 rfl) ?_
  refine gf_ps_29 hC hw d_ps_pieceOf_1 ?_
  refine lv_iload_n hC.1 hC.2.1 d_ps_pieceOf_4 rfl (lv_at hl 1 rfl) ?_
  refine lv_bipush (v := iI 7) hC.1 hC.2.1 d_ps_pieceOf_5 (by decide +kernel) ?_
  refine ir_mul hC.1 hC.2.1 d_ps_pieceOf_7 ?_
  refine lv_iload_n hC.1 hC.2.1 d_ps_pieceOf_8 rfl (lv_at hl 2 rfl) ?_
  refine ir_add hC.1 hC.2.1 d_ps_pieceOf_9 ?_
  refine ld_21 hC hw (by omega) (by omega) d_ps_pieceOf_10 ?_
  have b_1 := iv_21 hI (((row * 7) + i).toNat)
  exact rt_R hC hr hlk (by first | rfl | (simp [pOf]; done) | (simp [pOf]; omega) | (simp [pOf] <;> split <;> omega) | omega) d_ps_pieceOf_11
set_option maxHeartbeats 4000000 in
set_option maxRecDepth 100000 in
theorem c_ps_isForward (l : Launch) (G : Gt) (S : St) (row : Int) (i : Int) (hI : Inv S) (hrow : 0 ≤ row ∧ row ≤ 30) (hi : 0 ≤ i ∧ i < 7) : Met l y_ps_isForward [.code y_ps_isForward b_ps_isForward 3 (some .boolean)] { frames := 0, cells := 0, slots := 0, locals := 0 } (va_Pc [.ref (G.2.1 3), .int (iI (row)), .int (iI (i))] (fun U => wu G S U)) (qR (fOf S row i)) 0 0 (fun _ => False) := by
  refine mt_of (by decide +kernel) (Nat.le_of_ble_eq_true rfl) ?_
  intro p e s m below meth c ls hadm hC hr hlk hex hw hl
  have hC : CallFix p m c b_ps_isForward 3 s _ tws "ChannelRules$Passages" := hC
  have hl : lv_has ls 3 [(0, .ref (G.2.1 3)), (1, .int (iI (row))), (2, .int (iI (i)))] := hl
  refine lv_aload_n hC.1 hC.2.1 d_ps_isForward_0 rfl (lv_at hl 0 rfl) ?_
  refine gf_ps_32 hC hw d_ps_isForward_1 ?_
  refine lv_iload_n hC.1 hC.2.1 d_ps_isForward_4 rfl (lv_at hl 1 rfl) ?_
  refine lv_bipush (v := iI 7) hC.1 hC.2.1 d_ps_isForward_5 (by decide +kernel) ?_
  refine ir_mul hC.1 hC.2.1 d_ps_isForward_7 ?_
  refine lv_iload_n hC.1 hC.2.1 d_ps_isForward_8 rfl (lv_at hl 2 rfl) ?_
  refine ir_add hC.1 hC.2.1 d_ps_isForward_9 ?_
  refine ld_22 hC hw (by omega) (by omega) d_ps_isForward_10 ?_
  have b_1 := iv_22 hI (((row * 7) + i).toNat)
  exact rt_RZ hC hr hlk (by omega) (by first | rfl | (simp [fOf]; done) | (simp [fOf]; omega) | (simp [fOf] <;> split <;> omega) | omega) d_ps_isForward_11
set_option maxHeartbeats 4000000 in
set_option maxRecDepth 100000 in
theorem c_ps_entersAt (l : Launch) (G : Gt) (S : St) (row : Int) (i : Int) (hI : Inv S) (hrow : 0 ≤ row ∧ row ≤ 30) (hi : 0 ≤ i ∧ i < 7) : Met l y_ps_entersAt [.code y_ps_entersAt b_ps_entersAt 3 (some .int)] { frames := 0, cells := 0, slots := 0, locals := 0 } (va_Pc [.ref (G.2.1 3), .int (iI (row)), .int (iI (i))] (fun U => wu G S U)) (qR (enA S row i)) 0 0 (fun _ => False) := by
  refine mt_of (by decide +kernel) (Nat.le_of_ble_eq_true rfl) ?_
  intro p e s m below meth c ls hadm hC hr hlk hex hw hl
  have hC : CallFix p m c b_ps_entersAt 3 s _ tws "ChannelRules$Passages" := hC
  have hl : lv_has ls 3 [(0, .ref (G.2.1 3)), (1, .int (iI (row))), (2, .int (iI (i)))] := hl
  refine lv_aload_n hC.1 hC.2.1 d_ps_entersAt_0 rfl (lv_at hl 0 rfl) ?_
  refine gf_ps_23 hC hw d_ps_entersAt_1 ?_
  refine lv_iload_n hC.1 hC.2.1 d_ps_entersAt_4 rfl (lv_at hl 1 rfl) ?_
  refine ld_19 hC hw (by omega) (by omega) d_ps_entersAt_5 ?_
  have b_1 := iv_19 hI row.toNat
  refine lv_aload_n hC.1 hC.2.1 d_ps_entersAt_6 rfl (lv_at hl 0 rfl) ?_
  refine gf_ps_35 hC hw d_ps_entersAt_7 ?_
  refine lv_iload_n hC.1 hC.2.1 d_ps_entersAt_10 rfl (lv_at hl 1 rfl) ?_
  refine lv_bipush (v := iI 8) hC.1 hC.2.1 d_ps_entersAt_11 (by decide +kernel) ?_
  refine ir_mul hC.1 hC.2.1 d_ps_entersAt_13 ?_
  refine lv_iload_n hC.1 hC.2.1 d_ps_entersAt_14 rfl (lv_at hl 2 rfl) ?_
  refine ir_add hC.1 hC.2.1 d_ps_entersAt_15 ?_
  refine ld_23 hC hw (by omega) (by omega) d_ps_entersAt_16 ?_
  have b_2 := iv_23 hI (((row * 8) + i).toNat)
  refine ir_add hC.1 hC.2.1 d_ps_entersAt_17 ?_
  exact rt_R hC hr hlk (by first | rfl | (simp [enA]; done) | (simp [enA]; omega) | (simp [enA] <;> split <;> omega) | omega) d_ps_entersAt_18
set_option maxHeartbeats 4000000 in
set_option maxRecDepth 100000 in
theorem c_ps_leavesAt (l : Launch) (G : Gt) (S : St) (row : Int) (i : Int) (hI : Inv S) (hrow : 0 ≤ row ∧ row ≤ 30) (hi : 0 ≤ i ∧ i < 7) : Met l y_ps_leavesAt [.code y_ps_leavesAt b_ps_leavesAt 3 (some .int)] { frames := 0, cells := 0, slots := 0, locals := 0 } (va_Pc [.ref (G.2.1 3), .int (iI (row)), .int (iI (i))] (fun U => wu G S U)) (qR (lvA S row i)) 0 0 (fun _ => False) := by
  refine mt_of (by decide +kernel) (Nat.le_of_ble_eq_true rfl) ?_
  intro p e s m below meth c ls hadm hC hr hlk hex hw hl
  have hC : CallFix p m c b_ps_leavesAt 3 s _ tws "ChannelRules$Passages" := hC
  have hl : lv_has ls 3 [(0, .ref (G.2.1 3)), (1, .int (iI (row))), (2, .int (iI (i)))] := hl
  refine lv_aload_n hC.1 hC.2.1 d_ps_leavesAt_0 rfl (lv_at hl 0 rfl) ?_
  refine gf_ps_23 hC hw d_ps_leavesAt_1 ?_
  refine lv_iload_n hC.1 hC.2.1 d_ps_leavesAt_4 rfl (lv_at hl 1 rfl) ?_
  refine ld_19 hC hw (by omega) (by omega) d_ps_leavesAt_5 ?_
  have b_1 := iv_19 hI row.toNat
  refine lv_aload_n hC.1 hC.2.1 d_ps_leavesAt_6 rfl (lv_at hl 0 rfl) ?_
  refine gf_ps_35 hC hw d_ps_leavesAt_7 ?_
  refine lv_iload_n hC.1 hC.2.1 d_ps_leavesAt_10 rfl (lv_at hl 1 rfl) ?_
  refine lv_bipush (v := iI 8) hC.1 hC.2.1 d_ps_leavesAt_11 (by decide +kernel) ?_
  refine ir_mul hC.1 hC.2.1 d_ps_leavesAt_13 ?_
  refine lv_iload_n hC.1 hC.2.1 d_ps_leavesAt_14 rfl (lv_at hl 2 rfl) ?_
  refine ir_add hC.1 hC.2.1 d_ps_leavesAt_15 ?_
  refine lv_iconst (v := iI 1) hC.1 hC.2.1 d_ps_leavesAt_16 rfl ?_
  refine ir_add hC.1 hC.2.1 d_ps_leavesAt_17 ?_
  refine ld_23 hC hw (by omega) (by omega) d_ps_leavesAt_18 ?_
  have b_2 := iv_23 hI ((((row * 8) + i) + 1).toNat)
  refine ir_add hC.1 hC.2.1 d_ps_leavesAt_19 ?_
  exact rt_R hC hr hlk (by first | rfl | (simp [lvA]; done) | (simp [lvA]; omega) | (simp [lvA] <;> split <;> omega) | omega) d_ps_leavesAt_20
set_option maxHeartbeats 4000000 in
set_option maxRecDepth 100000 in
theorem c_ps_stayOn (l : Launch) (G : Gt) (S : St) (row : Int) (q : Int) (hI : Inv S) (hrow : 0 ≤ row ∧ row ≤ 30) (hq : 0 ≤ q ∧ q < 12) : Met l y_ps_stayOn [.code y_ps_stayOn b_ps_stayOn 3 (some .int)] { frames := 0, cells := 0, slots := 0, locals := 0 } (va_Pc [.ref (G.2.1 3), .int (iI (row)), .int (iI (q))] (fun U => wu G S U)) (qR (stO S row q)) 0 0 (fun _ => False) := by
  refine mt_of (by decide +kernel) (Nat.le_of_ble_eq_true rfl) ?_
  intro p e s m below meth c ls hadm hC hr hlk hex hw hl
  have hC : CallFix p m c b_ps_stayOn 3 s _ tws "ChannelRules$Passages" := hC
  have hl : lv_has ls 3 [(0, .ref (G.2.1 3)), (1, .int (iI (row))), (2, .int (iI (q)))] := hl
  refine lv_aload_n hC.1 hC.2.1 d_ps_stayOn_0 rfl (lv_at hl 0 rfl) ?_
  refine gf_ps_38 hC hw d_ps_stayOn_1 ?_
  refine lv_iload_n hC.1 hC.2.1 d_ps_stayOn_4 rfl (lv_at hl 1 rfl) ?_
  refine lv_bipush (v := iI 12) hC.1 hC.2.1 d_ps_stayOn_5 (by decide +kernel) ?_
  refine ir_mul hC.1 hC.2.1 d_ps_stayOn_7 ?_
  refine lv_iload_n hC.1 hC.2.1 d_ps_stayOn_8 rfl (lv_at hl 2 rfl) ?_
  refine ir_add hC.1 hC.2.1 d_ps_stayOn_9 ?_
  refine ld_24 hC hw (by omega) (by omega) d_ps_stayOn_10 ?_
  have b_1 := iv_24 hI (((row * 12) + q).toNat)
  refine lv_iconst (v := iI 1) hC.1 hC.2.1 d_ps_stayOn_11 rfl ?_
  refine ir_sub hC.1 hC.2.1 d_ps_stayOn_12 ?_
  exact rt_R hC hr hlk (by first | rfl | (simp [stO]; done) | (simp [stO]; omega) | (simp [stO] <;> split <;> omega) | omega) d_ps_stayOn_13
set_option maxHeartbeats 4000000 in
set_option maxRecDepth 100000 in
theorem c_ps_isOvertaking (l : Launch) (G : Gt) (S : St) (row : Int) (i : Int) (ro : Int) (j : Int) (hI : Inv S) (hrow : 0 ≤ row ∧ row ≤ 30) (hi : 0 ≤ i ∧ i < 7) (hro : 0 ≤ ro ∧ ro ≤ 30) (hj : 0 ≤ j ∧ j < 7) : Met l y_ps_isOvertaking [.code y_ps_isOvertaking b_ps_isOvertaking 9 (some .boolean)] { frames := 1, cells := 0, slots := 0, locals := 22 } (va_Pc [.ref (G.2.1 3), .int (iI (row)), .int (iI (i)), .int (iI (ro)), .int (iI (j))] (fun U => wu G S U)) (qR (bI (ovt S row i ro j))) 0 0 (fun _ => False) := by
  refine mt_of (by decide +kernel) (Nat.le_of_ble_eq_true rfl) ?_
  intro p e s m below meth c ls hadm hC hr hlk hex hw hl
  have hC : CallFix p m c b_ps_isOvertaking 9 s _ tws "ChannelRules$Passages" := hC
  have hl : lv_has ls 9 [(0, .ref (G.2.1 3)), (1, .int (iI (row))), (2, .int (iI (i))), (3, .int (iI (ro))), (4, .int (iI (j)))] := hl
  refine lv_aload_n hC.1 hC.2.1 d_ps_isOvertaking_0 rfl (lv_at hl 0 rfl) ?_
  refine lv_iload_n hC.1 hC.2.1 d_ps_isOvertaking_1 rfl (lv_at hl 1 rfl) ?_
  refine lv_iload_n hC.1 hC.2.1 d_ps_isOvertaking_2 rfl (lv_at hl 2 rfl) ?_
  refine go_R (ca_V (As := [.int (iI (row)), .int (iI (i))]) (rest := []) hC hw (c_ps_entersAt l G S row i hI (by omega) (by omega)) (cv_ps_45 hC rfl rfl (Nat.le_of_ble_eq_true rfl) (Nat.le_of_ble_eq_true rfl)) (by decide) rfl rfl rfl hl.1 rfl (Nat.le_of_ble_eq_true rfl) d_ps_isOvertaking_3 ⟨Nat.le_of_ble_eq_true rfl, Nat.le_of_ble_eq_true rfl⟩) ?_
  have r_1 := enA_b hI row i
  refine lv_aload_n hC.1 hC.2.1 d_ps_isOvertaking_6 rfl (lv_at hl 0 rfl) ?_
  refine lv_iload_n hC.1 hC.2.1 d_ps_isOvertaking_7 rfl (lv_at hl 3 rfl) ?_
  refine lv_iload hC.1 hC.2.1 d_ps_isOvertaking_8 (lv_at hl 4 rfl) ?_
  refine go_R (ca_V (As := [.int (iI (ro)), .int (iI (j))]) (rest := [.int (iI (enA S row i))]) hC hw (c_ps_entersAt l G S ro j hI (by omega) (by omega)) (cv_ps_45 hC rfl rfl (Nat.le_of_ble_eq_true rfl) (Nat.le_of_ble_eq_true rfl)) (by decide) rfl rfl rfl hl.1 rfl (Nat.le_of_ble_eq_true rfl) d_ps_isOvertaking_10 ⟨Nat.le_of_ble_eq_true rfl, Nat.le_of_ble_eq_true rfl⟩) ?_
  have r_2 := enA_b hI ro j
  refine ir_sub hC.1 hC.2.1 d_ps_isOvertaking_13 ?_
  refine lv_istore (lv' := [(5, .int (iI ((enA S row i) - (enA S ro j)))), (0, .ref (G.2.1 3)), (1, .int (iI (row))), (2, .int (iI (i))), (3, .int (iI (ro))), (4, .int (iI (j)))]) hC.1 hC.2.1 d_ps_isOvertaking_14 hl (by decide) rfl (fun ls hl => ?_)
  refine lv_aload_n hC.1 hC.2.1 d_ps_isOvertaking_16 rfl (lv_at hl 1 rfl) ?_
  refine lv_iload_n hC.1 hC.2.1 d_ps_isOvertaking_17 rfl (lv_at hl 2 rfl) ?_
  refine lv_iload_n hC.1 hC.2.1 d_ps_isOvertaking_18 rfl (lv_at hl 3 rfl) ?_
  refine go_R (ca_V (As := [.int (iI (row)), .int (iI (i))]) (rest := []) hC hw (c_ps_leavesAt l G S row i hI (by omega) (by omega)) (cv_ps_49 hC rfl rfl (Nat.le_of_ble_eq_true rfl) (Nat.le_of_ble_eq_true rfl)) (by decide) rfl rfl rfl hl.1 rfl (Nat.le_of_ble_eq_true rfl) d_ps_isOvertaking_19 ⟨Nat.le_of_ble_eq_true rfl, Nat.le_of_ble_eq_true rfl⟩) ?_
  have r_3 := lvA_b hI row i
  refine lv_aload_n hC.1 hC.2.1 d_ps_isOvertaking_22 rfl (lv_at hl 1 rfl) ?_
  refine lv_iload_n hC.1 hC.2.1 d_ps_isOvertaking_23 rfl (lv_at hl 4 rfl) ?_
  refine lv_iload hC.1 hC.2.1 d_ps_isOvertaking_24 (lv_at hl 5 rfl) ?_
  refine go_R (ca_V (As := [.int (iI (ro)), .int (iI (j))]) (rest := [.int (iI (lvA S row i))]) hC hw (c_ps_leavesAt l G S ro j hI (by omega) (by omega)) (cv_ps_49 hC rfl rfl (Nat.le_of_ble_eq_true rfl) (Nat.le_of_ble_eq_true rfl)) (by decide) rfl rfl rfl hl.1 rfl (Nat.le_of_ble_eq_true rfl) d_ps_isOvertaking_26 ⟨Nat.le_of_ble_eq_true rfl, Nat.le_of_ble_eq_true rfl⟩) ?_
  have r_4 := lvA_b hI ro j
  refine ir_sub hC.1 hC.2.1 d_ps_isOvertaking_29 ?_
  refine lv_istore (lv' := [(6, .int (iI ((lvA S row i) - (lvA S ro j)))), (5, .int (iI ((enA S row i) - (enA S ro j)))), (0, .ref (G.2.1 3)), (1, .int (iI (row))), (2, .int (iI (i))), (3, .int (iI (ro))), (4, .int (iI (j)))]) hC.1 hC.2.1 d_ps_isOvertaking_30 hl (by decide) rfl (fun ls hl => ?_)
  refine lv_iload hC.1 hC.2.1 d_ps_isOvertaking_32 (lv_at hl 1 rfl) ?_
  refine ir_if_ge (tgt := 46) hC.1 hC.2.1 d_ps_isOvertaking_34 (by decide) ⟨by omega, by omega⟩ (fun c_5 => ?_) (fun c_5 => ?_)
  · skip
    refine lv_iconst (v := iI 0) hC.1 hC.2.1 d_ps_isOvertaking_46 rfl ?_
    refine lv_istore (lv' := [(7, .int (iI (0))), (6, .int (iI ((lvA S row i) - (lvA S ro j)))), (5, .int (iI ((enA S row i) - (enA S ro j)))), (0, .ref (G.2.1 3)), (1, .int (iI (row))), (2, .int (iI (i))), (3, .int (iI (ro))), (4, .int (iI (j)))]) hC.1 hC.2.1 d_ps_isOvertaking_47 hl (by decide) rfl (fun ls hl => ?_)
    refine lv_iload hC.1 hC.2.1 d_ps_isOvertaking_49 (lv_at hl 2 rfl) ?_
    refine ir_if_le (tgt := 63) hC.1 hC.2.1 d_ps_isOvertaking_51 (by decide) ⟨by omega, by omega⟩ (fun c_6 => ?_) (fun c_6 => ?_)
    · skip
      refine lv_iconst (v := iI 0) hC.1 hC.2.1 d_ps_isOvertaking_63 rfl ?_
      refine lv_istore (lv' := [(8, .int (iI (0))), (7, .int (iI (0))), (6, .int (iI ((lvA S row i) - (lvA S ro j)))), (5, .int (iI ((enA S row i) - (enA S ro j)))), (0, .ref (G.2.1 3)), (1, .int (iI (row))), (2, .int (iI (i))), (3, .int (iI (ro))), (4, .int (iI (j)))]) hC.1 hC.2.1 d_ps_isOvertaking_64 hl (by decide) rfl (fun ls hl => ?_)
      refine lv_iload hC.1 hC.2.1 d_ps_isOvertaking_66 (lv_at hl 1 rfl) ?_
      refine ir_if_ne (tgt := 80) hC.1 hC.2.1 d_ps_isOvertaking_68 (by decide) (by decide) (fun c_7 => ?_) (fun c_7 => ?_)
      · exact absurd c_7 (by decide)
      · skip
        refine lv_iload hC.1 hC.2.1 d_ps_isOvertaking_71 (lv_at hl 0 rfl) ?_
        refine ir_if_ne (tgt := 80) hC.1 hC.2.1 d_ps_isOvertaking_73 (by decide) (by decide) (fun c_8 => ?_) (fun c_8 => ?_)
        · exact absurd c_8 (by decide)
        · skip
          refine lv_iconst (v := iI 1) hC.1 hC.2.1 d_ps_isOvertaking_76 rfl ?_
          refine lv_goto (tgt := 81) hC.1 hC.2.1 d_ps_isOvertaking_77 (by decide) ?_
          exact rt_RZ hC hr hlk (by decide) (by first | rfl | (simp [ovt, bI, c_5, c_6]; done) | (simp [ovt, bI, c_5, c_6]; omega) | (simp [ovt, bI, c_5, c_6] <;> split <;> omega) | omega) d_ps_isOvertaking_81
    · skip
      refine lv_iload hC.1 hC.2.1 d_ps_isOvertaking_54 (lv_at hl 1 rfl) ?_
      refine ir_if_le (tgt := 63) hC.1 hC.2.1 d_ps_isOvertaking_56 (by decide) ⟨by omega, by omega⟩ (fun c_9 => ?_) (fun c_9 => ?_)
      · skip
        refine lv_iconst (v := iI 0) hC.1 hC.2.1 d_ps_isOvertaking_63 rfl ?_
        refine lv_istore (lv' := [(8, .int (iI (0))), (7, .int (iI (0))), (6, .int (iI ((lvA S row i) - (lvA S ro j)))), (5, .int (iI ((enA S row i) - (enA S ro j)))), (0, .ref (G.2.1 3)), (1, .int (iI (row))), (2, .int (iI (i))), (3, .int (iI (ro))), (4, .int (iI (j)))]) hC.1 hC.2.1 d_ps_isOvertaking_64 hl (by decide) rfl (fun ls hl => ?_)
        refine lv_iload hC.1 hC.2.1 d_ps_isOvertaking_66 (lv_at hl 1 rfl) ?_
        refine ir_if_ne (tgt := 80) hC.1 hC.2.1 d_ps_isOvertaking_68 (by decide) (by decide) (fun c_10 => ?_) (fun c_10 => ?_)
        · exact absurd c_10 (by decide)
        · skip
          refine lv_iload hC.1 hC.2.1 d_ps_isOvertaking_71 (lv_at hl 0 rfl) ?_
          refine ir_if_ne (tgt := 80) hC.1 hC.2.1 d_ps_isOvertaking_73 (by decide) (by decide) (fun c_11 => ?_) (fun c_11 => ?_)
          · exact absurd c_11 (by decide)
          · skip
            refine lv_iconst (v := iI 1) hC.1 hC.2.1 d_ps_isOvertaking_76 rfl ?_
            refine lv_goto (tgt := 81) hC.1 hC.2.1 d_ps_isOvertaking_77 (by decide) ?_
            exact rt_RZ hC hr hlk (by decide) (by first | rfl | (simp [ovt, bI, c_5, c_6, c_9]; done) | (simp [ovt, bI, c_5, c_6, c_9]; omega) | (simp [ovt, bI, c_5, c_6, c_9] <;> split <;> omega) | omega) d_ps_isOvertaking_81
      · skip
        refine lv_iconst (v := iI 1) hC.1 hC.2.1 d_ps_isOvertaking_59 rfl ?_
        refine lv_goto (tgt := 64) hC.1 hC.2.1 d_ps_isOvertaking_60 (by decide) ?_
        refine lv_istore (lv' := [(8, .int (iI (1))), (7, .int (iI (0))), (6, .int (iI ((lvA S row i) - (lvA S ro j)))), (5, .int (iI ((enA S row i) - (enA S ro j)))), (0, .ref (G.2.1 3)), (1, .int (iI (row))), (2, .int (iI (i))), (3, .int (iI (ro))), (4, .int (iI (j)))]) hC.1 hC.2.1 d_ps_isOvertaking_64 hl (by decide) rfl (fun ls hl => ?_)
        refine lv_iload hC.1 hC.2.1 d_ps_isOvertaking_66 (lv_at hl 1 rfl) ?_
        refine ir_if_ne (tgt := 80) hC.1 hC.2.1 d_ps_isOvertaking_68 (by decide) (by decide) (fun c_12 => ?_) (fun c_12 => ?_)
        · exact absurd c_12 (by decide)
        · skip
          refine lv_iload hC.1 hC.2.1 d_ps_isOvertaking_71 (lv_at hl 0 rfl) ?_
          refine ir_if_ne (tgt := 80) hC.1 hC.2.1 d_ps_isOvertaking_73 (by decide) (by decide) (fun c_13 => ?_) (fun c_13 => ?_)
          · skip
            refine lv_iconst (v := iI 0) hC.1 hC.2.1 d_ps_isOvertaking_80 rfl ?_
            exact rt_RZ hC hr hlk (by decide) (by first | rfl | (simp [ovt, bI, c_5, c_6, c_9]; done) | (simp [ovt, bI, c_5, c_6, c_9]; omega) | (simp [ovt, bI, c_5, c_6, c_9] <;> split <;> omega) | omega) d_ps_isOvertaking_81
          · exact absurd c_13 (by decide)
  · skip
    refine lv_iload hC.1 hC.2.1 d_ps_isOvertaking_37 (lv_at hl 0 rfl) ?_
    refine ir_if_ge (tgt := 46) hC.1 hC.2.1 d_ps_isOvertaking_39 (by decide) ⟨by omega, by omega⟩ (fun c_14 => ?_) (fun c_14 => ?_)
    · skip
      refine lv_iconst (v := iI 0) hC.1 hC.2.1 d_ps_isOvertaking_46 rfl ?_
      refine lv_istore (lv' := [(7, .int (iI (0))), (6, .int (iI ((lvA S row i) - (lvA S ro j)))), (5, .int (iI ((enA S row i) - (enA S ro j)))), (0, .ref (G.2.1 3)), (1, .int (iI (row))), (2, .int (iI (i))), (3, .int (iI (ro))), (4, .int (iI (j)))]) hC.1 hC.2.1 d_ps_isOvertaking_47 hl (by decide) rfl (fun ls hl => ?_)
      refine lv_iload hC.1 hC.2.1 d_ps_isOvertaking_49 (lv_at hl 2 rfl) ?_
      refine ir_if_le (tgt := 63) hC.1 hC.2.1 d_ps_isOvertaking_51 (by decide) ⟨by omega, by omega⟩ (fun c_15 => ?_) (fun c_15 => ?_)
      · skip
        refine lv_iconst (v := iI 0) hC.1 hC.2.1 d_ps_isOvertaking_63 rfl ?_
        refine lv_istore (lv' := [(8, .int (iI (0))), (7, .int (iI (0))), (6, .int (iI ((lvA S row i) - (lvA S ro j)))), (5, .int (iI ((enA S row i) - (enA S ro j)))), (0, .ref (G.2.1 3)), (1, .int (iI (row))), (2, .int (iI (i))), (3, .int (iI (ro))), (4, .int (iI (j)))]) hC.1 hC.2.1 d_ps_isOvertaking_64 hl (by decide) rfl (fun ls hl => ?_)
        refine lv_iload hC.1 hC.2.1 d_ps_isOvertaking_66 (lv_at hl 1 rfl) ?_
        refine ir_if_ne (tgt := 80) hC.1 hC.2.1 d_ps_isOvertaking_68 (by decide) (by decide) (fun c_16 => ?_) (fun c_16 => ?_)
        · exact absurd c_16 (by decide)
        · skip
          refine lv_iload hC.1 hC.2.1 d_ps_isOvertaking_71 (lv_at hl 0 rfl) ?_
          refine ir_if_ne (tgt := 80) hC.1 hC.2.1 d_ps_isOvertaking_73 (by decide) (by decide) (fun c_17 => ?_) (fun c_17 => ?_)
          · exact absurd c_17 (by decide)
          · skip
            refine lv_iconst (v := iI 1) hC.1 hC.2.1 d_ps_isOvertaking_76 rfl ?_
            refine lv_goto (tgt := 81) hC.1 hC.2.1 d_ps_isOvertaking_77 (by decide) ?_
            exact rt_RZ hC hr hlk (by decide) (by first | rfl | (simp [ovt, bI, c_5, c_14, c_15]; done) | (simp [ovt, bI, c_5, c_14, c_15]; omega) | (simp [ovt, bI, c_5, c_14, c_15] <;> split <;> omega) | omega) d_ps_isOvertaking_81
      · skip
        refine lv_iload hC.1 hC.2.1 d_ps_isOvertaking_54 (lv_at hl 1 rfl) ?_
        refine ir_if_le (tgt := 63) hC.1 hC.2.1 d_ps_isOvertaking_56 (by decide) ⟨by omega, by omega⟩ (fun c_18 => ?_) (fun c_18 => ?_)
        · skip
          refine lv_iconst (v := iI 0) hC.1 hC.2.1 d_ps_isOvertaking_63 rfl ?_
          refine lv_istore (lv' := [(8, .int (iI (0))), (7, .int (iI (0))), (6, .int (iI ((lvA S row i) - (lvA S ro j)))), (5, .int (iI ((enA S row i) - (enA S ro j)))), (0, .ref (G.2.1 3)), (1, .int (iI (row))), (2, .int (iI (i))), (3, .int (iI (ro))), (4, .int (iI (j)))]) hC.1 hC.2.1 d_ps_isOvertaking_64 hl (by decide) rfl (fun ls hl => ?_)
          refine lv_iload hC.1 hC.2.1 d_ps_isOvertaking_66 (lv_at hl 1 rfl) ?_
          refine ir_if_ne (tgt := 80) hC.1 hC.2.1 d_ps_isOvertaking_68 (by decide) (by decide) (fun c_19 => ?_) (fun c_19 => ?_)
          · exact absurd c_19 (by decide)
          · skip
            refine lv_iload hC.1 hC.2.1 d_ps_isOvertaking_71 (lv_at hl 0 rfl) ?_
            refine ir_if_ne (tgt := 80) hC.1 hC.2.1 d_ps_isOvertaking_73 (by decide) (by decide) (fun c_20 => ?_) (fun c_20 => ?_)
            · exact absurd c_20 (by decide)
            · skip
              refine lv_iconst (v := iI 1) hC.1 hC.2.1 d_ps_isOvertaking_76 rfl ?_
              refine lv_goto (tgt := 81) hC.1 hC.2.1 d_ps_isOvertaking_77 (by decide) ?_
              exact rt_RZ hC hr hlk (by decide) (by first | rfl | (simp [ovt, bI, c_5, c_14, c_15, c_18]; done) | (simp [ovt, bI, c_5, c_14, c_15, c_18]; omega) | (simp [ovt, bI, c_5, c_14, c_15, c_18] <;> split <;> omega) | omega) d_ps_isOvertaking_81
        · skip
          refine lv_iconst (v := iI 1) hC.1 hC.2.1 d_ps_isOvertaking_59 rfl ?_
          refine lv_goto (tgt := 64) hC.1 hC.2.1 d_ps_isOvertaking_60 (by decide) ?_
          refine lv_istore (lv' := [(8, .int (iI (1))), (7, .int (iI (0))), (6, .int (iI ((lvA S row i) - (lvA S ro j)))), (5, .int (iI ((enA S row i) - (enA S ro j)))), (0, .ref (G.2.1 3)), (1, .int (iI (row))), (2, .int (iI (i))), (3, .int (iI (ro))), (4, .int (iI (j)))]) hC.1 hC.2.1 d_ps_isOvertaking_64 hl (by decide) rfl (fun ls hl => ?_)
          refine lv_iload hC.1 hC.2.1 d_ps_isOvertaking_66 (lv_at hl 1 rfl) ?_
          refine ir_if_ne (tgt := 80) hC.1 hC.2.1 d_ps_isOvertaking_68 (by decide) (by decide) (fun c_21 => ?_) (fun c_21 => ?_)
          · exact absurd c_21 (by decide)
          · skip
            refine lv_iload hC.1 hC.2.1 d_ps_isOvertaking_71 (lv_at hl 0 rfl) ?_
            refine ir_if_ne (tgt := 80) hC.1 hC.2.1 d_ps_isOvertaking_73 (by decide) (by decide) (fun c_22 => ?_) (fun c_22 => ?_)
            · skip
              refine lv_iconst (v := iI 0) hC.1 hC.2.1 d_ps_isOvertaking_80 rfl ?_
              exact rt_RZ hC hr hlk (by decide) (by first | rfl | (simp [ovt, bI, c_5, c_14, c_15, c_18]; done) | (simp [ovt, bI, c_5, c_14, c_15, c_18]; omega) | (simp [ovt, bI, c_5, c_14, c_15, c_18] <;> split <;> omega) | omega) d_ps_isOvertaking_81
            · exact absurd c_22 (by decide)
    · skip
      refine lv_iconst (v := iI 1) hC.1 hC.2.1 d_ps_isOvertaking_42 rfl ?_
      refine lv_goto (tgt := 47) hC.1 hC.2.1 d_ps_isOvertaking_43 (by decide) ?_
      refine lv_istore (lv' := [(7, .int (iI (1))), (6, .int (iI ((lvA S row i) - (lvA S ro j)))), (5, .int (iI ((enA S row i) - (enA S ro j)))), (0, .ref (G.2.1 3)), (1, .int (iI (row))), (2, .int (iI (i))), (3, .int (iI (ro))), (4, .int (iI (j)))]) hC.1 hC.2.1 d_ps_isOvertaking_47 hl (by decide) rfl (fun ls hl => ?_)
      refine lv_iload hC.1 hC.2.1 d_ps_isOvertaking_49 (lv_at hl 2 rfl) ?_
      refine ir_if_le (tgt := 63) hC.1 hC.2.1 d_ps_isOvertaking_51 (by decide) ⟨by omega, by omega⟩ (fun c_23 => ?_) (fun c_23 => ?_)
      · skip
        refine lv_iconst (v := iI 0) hC.1 hC.2.1 d_ps_isOvertaking_63 rfl ?_
        refine lv_istore (lv' := [(8, .int (iI (0))), (7, .int (iI (1))), (6, .int (iI ((lvA S row i) - (lvA S ro j)))), (5, .int (iI ((enA S row i) - (enA S ro j)))), (0, .ref (G.2.1 3)), (1, .int (iI (row))), (2, .int (iI (i))), (3, .int (iI (ro))), (4, .int (iI (j)))]) hC.1 hC.2.1 d_ps_isOvertaking_64 hl (by decide) rfl (fun ls hl => ?_)
        refine lv_iload hC.1 hC.2.1 d_ps_isOvertaking_66 (lv_at hl 1 rfl) ?_
        refine ir_if_ne (tgt := 80) hC.1 hC.2.1 d_ps_isOvertaking_68 (by decide) (by decide) (fun c_24 => ?_) (fun c_24 => ?_)
        · skip
          refine lv_iconst (v := iI 0) hC.1 hC.2.1 d_ps_isOvertaking_80 rfl ?_
          exact rt_RZ hC hr hlk (by decide) (by first | rfl | (simp [ovt, bI, c_5, c_14, c_23]; done) | (simp [ovt, bI, c_5, c_14, c_23]; omega) | (simp [ovt, bI, c_5, c_14, c_23] <;> split <;> omega) | omega) d_ps_isOvertaking_81
        · exact absurd c_24 (by decide)
      · skip
        refine lv_iload hC.1 hC.2.1 d_ps_isOvertaking_54 (lv_at hl 1 rfl) ?_
        refine ir_if_le (tgt := 63) hC.1 hC.2.1 d_ps_isOvertaking_56 (by decide) ⟨by omega, by omega⟩ (fun c_25 => ?_) (fun c_25 => ?_)
        · skip
          refine lv_iconst (v := iI 0) hC.1 hC.2.1 d_ps_isOvertaking_63 rfl ?_
          refine lv_istore (lv' := [(8, .int (iI (0))), (7, .int (iI (1))), (6, .int (iI ((lvA S row i) - (lvA S ro j)))), (5, .int (iI ((enA S row i) - (enA S ro j)))), (0, .ref (G.2.1 3)), (1, .int (iI (row))), (2, .int (iI (i))), (3, .int (iI (ro))), (4, .int (iI (j)))]) hC.1 hC.2.1 d_ps_isOvertaking_64 hl (by decide) rfl (fun ls hl => ?_)
          refine lv_iload hC.1 hC.2.1 d_ps_isOvertaking_66 (lv_at hl 1 rfl) ?_
          refine ir_if_ne (tgt := 80) hC.1 hC.2.1 d_ps_isOvertaking_68 (by decide) (by decide) (fun c_26 => ?_) (fun c_26 => ?_)
          · skip
            refine lv_iconst (v := iI 0) hC.1 hC.2.1 d_ps_isOvertaking_80 rfl ?_
            exact rt_RZ hC hr hlk (by decide) (by first | rfl | (simp [ovt, bI, c_5, c_14, c_23, c_25]; done) | (simp [ovt, bI, c_5, c_14, c_23, c_25]; omega) | (simp [ovt, bI, c_5, c_14, c_23, c_25] <;> split <;> omega) | omega) d_ps_isOvertaking_81
          · exact absurd c_26 (by decide)
        · skip
          refine lv_iconst (v := iI 1) hC.1 hC.2.1 d_ps_isOvertaking_59 rfl ?_
          refine lv_goto (tgt := 64) hC.1 hC.2.1 d_ps_isOvertaking_60 (by decide) ?_
          refine lv_istore (lv' := [(8, .int (iI (1))), (7, .int (iI (1))), (6, .int (iI ((lvA S row i) - (lvA S ro j)))), (5, .int (iI ((enA S row i) - (enA S ro j)))), (0, .ref (G.2.1 3)), (1, .int (iI (row))), (2, .int (iI (i))), (3, .int (iI (ro))), (4, .int (iI (j)))]) hC.1 hC.2.1 d_ps_isOvertaking_64 hl (by decide) rfl (fun ls hl => ?_)
          refine lv_iload hC.1 hC.2.1 d_ps_isOvertaking_66 (lv_at hl 1 rfl) ?_
          refine ir_if_ne (tgt := 80) hC.1 hC.2.1 d_ps_isOvertaking_68 (by decide) (by decide) (fun c_27 => ?_) (fun c_27 => ?_)
          · skip
            refine lv_iconst (v := iI 0) hC.1 hC.2.1 d_ps_isOvertaking_80 rfl ?_
            exact rt_RZ hC hr hlk (by decide) (by first | rfl | (simp [ovt, bI, c_5, c_14, c_23, c_25]; done) | (simp [ovt, bI, c_5, c_14, c_23, c_25]; omega) | (simp [ovt, bI, c_5, c_14, c_23, c_25] <;> split <;> omega) | omega) d_ps_isOvertaking_81
          · exact absurd c_27 (by decide)
set_option maxHeartbeats 4000000 in
set_option maxRecDepth 100000 in
theorem c_pc_has (l : Launch) (G : Gt) (S : St) (q : Int) (hI : Inv S) (hq : i32 q) : Met l y_pc_has [.code y_pc_has b_pc_has 2 (some .boolean)] { frames := 1, cells := 0, slots := 0, locals := 22 } (va_Pc [.ref (G.2.1 1), .int (iI (q))] (fun U => wu G S U)) (qR (bI (wn q 0 (S 1 0 - 1)))) 0 0 (fun _ => False) := by
  refine mt_of (by decide +kernel) (Nat.le_of_ble_eq_true rfl) ?_
  intro p e s m below meth c ls hadm hC hr hlk hex hw hl
  have hC : CallFix p m c b_pc_has 2 s _ tws "ChannelRules$Pieces" := hC
  have hl : lv_has ls 2 [(0, .ref (G.2.1 1)), (1, .int (iI (q)))] := hl
  refine lv_iload_n hC.1 hC.2.1 d_pc_has_0 rfl (lv_at hl 1 rfl) ?_
  refine lv_iconst (v := iI 0) hC.1 hC.2.1 d_pc_has_1 rfl ?_
  refine lv_aload_n hC.1 hC.2.1 d_pc_has_2 rfl (lv_at hl 0 rfl) ?_
  refine gf_pc_9 hC hw d_pc_has_3 ?_
  have b_1 := iv_1 hI 0
  refine lv_iconst (v := iI 1) hC.1 hC.2.1 d_pc_has_6 rfl ?_
  refine ir_sub hC.1 hC.2.1 d_pc_has_7 ?_
  refine go_R (ca_N (As := [.int (iI (q)), .int (iI (0)), .int (iI ((S 1 0) - 1))]) (rest := []) hC hw (c_cr_isWithin l G S q 0 ((S 1 0) - 1) (by omega) (by omega) (by omega)) (cv_pc_40 hC rfl rfl (Nat.le_of_ble_eq_true rfl) (Nat.le_of_ble_eq_true rfl)) rfl hl.1 rfl (Nat.le_of_ble_eq_true rfl) d_pc_has_8 ⟨Nat.le_of_ble_eq_true rfl, Nat.le_of_ble_eq_true rfl⟩) ?_
  exact rt_RZ hC hr hlk (bI_01 _) (by first | rfl | (simp [wn, bI]; done) | (simp [wn, bI]; omega) | (simp [wn, bI] <;> split <;> omega) | omega) d_pc_has_11
set_option maxHeartbeats 4000000 in
set_option maxRecDepth 100000 in
theorem c_pc_otherEnd (l : Launch) (G : Gt) (S : St) (q : Int) (t : Int) (hI : Inv S) (hq : 0 ≤ q ∧ q < 12) (ht : 0 ≤ t ∧ t ≤ 7) : Met l y_pc_otherEnd [.code y_pc_otherEnd b_pc_otherEnd 3 (some .int)] { frames := 0, cells := 0, slots := 0, locals := 0 } (va_Pc [.ref (G.2.1 1), .int (iI (q)), .int (iI (t))] (fun U => wu G S U)) (qR (oEnd S q t)) 0 0 (fun _ => False) := by
  refine mt_of (by decide +kernel) (Nat.le_of_ble_eq_true rfl) ?_
  intro p e s m below meth c ls hadm hC hr hlk hex hw hl
  have hC : CallFix p m c b_pc_otherEnd 3 s _ tws "ChannelRules$Pieces" := hC
  have hl : lv_has ls 3 [(0, .ref (G.2.1 1)), (1, .int (iI (q))), (2, .int (iI (t)))] := hl
  refine lv_aload_n hC.1 hC.2.1 d_pc_otherEnd_0 rfl (lv_at hl 0 rfl) ?_
  refine gf_pc_15 hC hw d_pc_otherEnd_1 ?_
  refine lv_iload_n hC.1 hC.2.1 d_pc_otherEnd_4 rfl (lv_at hl 1 rfl) ?_
  refine ld_6 hC hw (by omega) (by omega) d_pc_otherEnd_5 ?_
  have b_1 := iv_6 hI q.toNat
  refine lv_iload_n hC.1 hC.2.1 d_pc_otherEnd_6 rfl (lv_at hl 2 rfl) ?_
  refine ir_ne (tgt := 17) hC.1 hC.2.1 d_pc_otherEnd_7 (by decide) ⟨by omega, by omega⟩ ⟨by omega, by omega⟩ (fun c_2 => ?_) (fun c_2 => ?_)
  · skip
    refine lv_aload_n hC.1 hC.2.1 d_pc_otherEnd_17 rfl (lv_at hl 0 rfl) ?_
    refine gf_pc_19 hC hw d_pc_otherEnd_18 ?_
    refine lv_iload_n hC.1 hC.2.1 d_pc_otherEnd_21 rfl (lv_at hl 1 rfl) ?_
    refine ld_7 hC hw (by omega) (by omega) d_pc_otherEnd_22 ?_
    have b_3 := iv_7 hI q.toNat
    refine lv_iload_n hC.1 hC.2.1 d_pc_otherEnd_23 rfl (lv_at hl 2 rfl) ?_
    refine ir_ne (tgt := 36) hC.1 hC.2.1 d_pc_otherEnd_24 (by decide) ⟨by omega, by omega⟩ ⟨by omega, by omega⟩ (fun c_4 => ?_) (fun c_4 => ?_)
    · skip
      refine lv_iconst (v := iI (-1)) hC.1 hC.2.1 d_pc_otherEnd_36 rfl ?_
      exact rt_R hC hr hlk (by first | rfl | (simp [oEnd, c_2, c_4]; done) | (simp [oEnd, c_2, c_4]; omega) | (simp [oEnd, c_2, c_4] <;> split <;> omega) | omega) d_pc_otherEnd_37
    · skip
      refine lv_aload_n hC.1 hC.2.1 d_pc_otherEnd_27 rfl (lv_at hl 0 rfl) ?_
      refine gf_pc_15 hC hw d_pc_otherEnd_28 ?_
      refine lv_iload_n hC.1 hC.2.1 d_pc_otherEnd_31 rfl (lv_at hl 1 rfl) ?_
      refine ld_6 hC hw (by omega) (by omega) d_pc_otherEnd_32 ?_
      have b_5 := iv_6 hI q.toNat
      refine lv_goto (tgt := 37) hC.1 hC.2.1 d_pc_otherEnd_33 (by decide) ?_
      exact rt_R hC hr hlk (by first | rfl | (simp [oEnd, c_2, c_4]; done) | (simp [oEnd, c_2, c_4]; omega) | (simp [oEnd, c_2, c_4] <;> split <;> omega) | omega) d_pc_otherEnd_37
  · skip
    refine lv_aload_n hC.1 hC.2.1 d_pc_otherEnd_10 rfl (lv_at hl 0 rfl) ?_
    refine gf_pc_19 hC hw d_pc_otherEnd_11 ?_
    refine lv_iload_n hC.1 hC.2.1 d_pc_otherEnd_14 rfl (lv_at hl 1 rfl) ?_
    refine ld_7 hC hw (by omega) (by omega) d_pc_otherEnd_15 ?_
    have b_6 := iv_7 hI q.toNat
    exact rt_R hC hr hlk (by first | rfl | (simp [oEnd, c_2]; done) | (simp [oEnd, c_2]; omega) | (simp [oEnd, c_2] <;> split <;> omega) | omega) d_pc_otherEnd_16
set_option maxHeartbeats 4000000 in
set_option maxRecDepth 100000 in
theorem c_pc_ruleOf (l : Launch) (G : Gt) (S : St) (q : Int) (k : Int) (hI : Inv S) (hq : 0 ≤ q ∧ q < 12) (hk : 0 ≤ k ∧ k < 5) : Met l y_pc_ruleOf [.code y_pc_ruleOf b_pc_ruleOf 3 (some .int)] { frames := 0, cells := 0, slots := 0, locals := 0 } (va_Pc [.ref (G.2.1 1), .int (iI (q)), .int (iI (k))] (fun U => wu G S U)) (qR (rOf S q k)) 0 0 (fun _ => False) := by
  refine mt_of (by decide +kernel) (Nat.le_of_ble_eq_true rfl) ?_
  intro p e s m below meth c ls hadm hC hr hlk hex hw hl
  have hC : CallFix p m c b_pc_ruleOf 3 s _ tws "ChannelRules$Pieces" := hC
  have hl : lv_has ls 3 [(0, .ref (G.2.1 1)), (1, .int (iI (q))), (2, .int (iI (k)))] := hl
  refine lv_aload_n hC.1 hC.2.1 d_pc_ruleOf_0 rfl (lv_at hl 0 rfl) ?_
  refine gf_pc_28 hC hw d_pc_ruleOf_1 ?_
  refine lv_iload_n hC.1 hC.2.1 d_pc_ruleOf_4 rfl (lv_at hl 1 rfl) ?_
  refine lv_iconst (v := iI 5) hC.1 hC.2.1 d_pc_ruleOf_5 rfl ?_
  refine ir_mul hC.1 hC.2.1 d_pc_ruleOf_6 ?_
  refine lv_iload_n hC.1 hC.2.1 d_pc_ruleOf_7 rfl (lv_at hl 2 rfl) ?_
  refine ir_add hC.1 hC.2.1 d_pc_ruleOf_8 ?_
  refine ld_10 hC hw (by omega) (by omega) d_pc_ruleOf_9 ?_
  have b_1 := iv_10 hI (((q * 5) + k).toNat)
  exact rt_R hC hr hlk (by first | rfl | (simp [rOf]; done) | (simp [rOf]; omega) | (simp [rOf] <;> split <;> omega) | omega) d_pc_ruleOf_10
set_option maxHeartbeats 4000000 in
set_option maxRecDepth 100000 in
theorem c_sh_has (l : Launch) (G : Gt) (S : St) (q : Int) (hI : Inv S) (hq : i32 q) : Met l y_sh_has [.code y_sh_has b_sh_has 2 (some .boolean)] { frames := 1, cells := 0, slots := 0, locals := 22 } (va_Pc [.ref (G.2.1 2), .int (iI (q))] (fun U => wu G S U)) (qR (bI (wn q 0 (S 2 0 - 1)))) 0 0 (fun _ => False) := by
  refine mt_of (by decide +kernel) (Nat.le_of_ble_eq_true rfl) ?_
  intro p e s m below meth c ls hadm hC hr hlk hex hw hl
  have hC : CallFix p m c b_sh_has 2 s _ tws "ChannelRules$Ships" := hC
  have hl : lv_has ls 2 [(0, .ref (G.2.1 2)), (1, .int (iI (q)))] := hl
  refine lv_iload_n hC.1 hC.2.1 d_sh_has_0 rfl (lv_at hl 1 rfl) ?_
  refine lv_iconst (v := iI 0) hC.1 hC.2.1 d_sh_has_1 rfl ?_
  refine lv_aload_n hC.1 hC.2.1 d_sh_has_2 rfl (lv_at hl 0 rfl) ?_
  refine gf_sh_9 hC hw d_sh_has_3 ?_
  have b_1 := iv_2 hI 0
  refine lv_iconst (v := iI 1) hC.1 hC.2.1 d_sh_has_6 rfl ?_
  refine ir_sub hC.1 hC.2.1 d_sh_has_7 ?_
  refine go_R (ca_N (As := [.int (iI (q)), .int (iI (0)), .int (iI ((S 2 0) - 1))]) (rest := []) hC hw (c_cr_isWithin l G S q 0 ((S 2 0) - 1) (by omega) (by omega) (by omega)) (cv_sh_25 hC rfl rfl (Nat.le_of_ble_eq_true rfl) (Nat.le_of_ble_eq_true rfl)) rfl hl.1 rfl (Nat.le_of_ble_eq_true rfl) d_sh_has_8 ⟨Nat.le_of_ble_eq_true rfl, Nat.le_of_ble_eq_true rfl⟩) ?_
  exact rt_RZ hC hr hlk (bI_01 _) (by first | rfl | (simp [wn, bI]; done) | (simp [wn, bI]; omega) | (simp [wn, bI] <;> split <;> omega) | omega) d_sh_has_11
set_option maxHeartbeats 4000000 in
set_option maxRecDepth 100000 in
theorem c_ps_givenSlots (l : Launch) (G : Gt) (S : St) (hI : Inv S) : Met l y_ps_givenSlots [.code y_ps_givenSlots b_ps_givenSlots 3 (some .int)] { frames := 0, cells := 0, slots := 0, locals := 0 } (va_Pc [.ref (G.2.1 3)] (fun U => wu G S U)) (qR (gSum S (S 3 0).toNat)) 0 0 (fun _ => False) := by
  refine mt_of (by decide +kernel) (Nat.le_of_ble_eq_true rfl) ?_
  intro p e s m below meth c ls hadm hC hr hlk hex hw hl
  have hC : CallFix p m c b_ps_givenSlots 3 s _ tws "ChannelRules$Passages" := hC
  have hl : lv_has ls 3 [(0, .ref (G.2.1 3))] := hl
  have i3 := iv_3 hI 0
  refine lv_iconst (v := iI 0) hC.1 hC.2.1 d_ps_givenSlots_0 rfl ?_
  refine lv_istore_n (lv' := [(1, .int (iI (0))), (0, .ref (G.2.1 3))]) hC.1 hC.2.1 d_ps_givenSlots_1 rfl hl (by decide) rfl (fun ls hl => ?_)
  refine lv_iconst (v := iI 1) hC.1 hC.2.1 d_ps_givenSlots_2 rfl ?_
  refine lv_istore_n (lv' := [(2, .int (iI (1))), (1, .int (iI (0))), (0, .ref (G.2.1 3))]) hC.1 hC.2.1 d_ps_givenSlots_3 rfl hl (by decide) rfl (fun ls hl => ?_)
  have loop_4 : ∀ (nn : Nat) (k : Nat) (x1 : Int) (x2 : Int), (S 3 0).toNat - k < nn → x1 = gSum S k → x2 = (k : Int) + 1 → (k : Int) ≤ S 3 0 → ∀ (ls : Array Slot), lv_has ls 3 [(2, .int (iI (x2))), (1, .int (iI (x1))), (0, .ref (G.2.1 3))] → W p l e { frames := 0, cells := 0, slots := 0, locals := 0 } s m ([.ref (G.2.1 3)] : List Value).toArray below meth c s.heap [] 0 0 (MQ below (qR (gSum S (S 3 0).toNat)) ([.ref (G.2.1 3)] : List Value).toArray s 0 0 (fun _ => False)) (F0 m 4 ls []) := by
    intro nn
    induction nn with
    | zero => intros; omega
    | succ nn ih_4 =>
      intro k x1 x2 hms_4 hx1 hx2 hv0 ls hl
      have ek : x2.toNat = k + 1 := by omega
      refine lv_iload_n hC.1 hC.2.1 d_ps_givenSlots_4 rfl (lv_at hl 0 rfl) ?_
      refine lv_aload_n hC.1 hC.2.1 d_ps_givenSlots_5 rfl (lv_at hl 2 rfl) ?_
      refine gf_ps_9 hC hw d_ps_givenSlots_6 ?_
      have b_1 := iv_3 hI 0
      refine ir_gt (tgt := 30) hC.1 hC.2.1 d_ps_givenSlots_9 (by decide) ⟨by omega, by omega⟩ ⟨by omega, by omega⟩ (fun c_2 => ?_) (fun c_2 => ?_)
      · skip
        refine lv_iload_n hC.1 hC.2.1 d_ps_givenSlots_30 rfl (lv_at hl 1 rfl) ?_
        exact rt_R hC hr hlk (by rw [hx1, show (S 3 0).toNat = k by omega]) d_ps_givenSlots_31
      · skip
        refine lv_aload_n hC.1 hC.2.1 d_ps_givenSlots_12 rfl (lv_at hl 2 rfl) ?_
        refine gf_ps_15 hC hw d_ps_givenSlots_13 ?_
        refine lv_iload_n hC.1 hC.2.1 d_ps_givenSlots_16 rfl (lv_at hl 0 rfl) ?_
        refine ld_17 hC hw (by omega) (by omega) d_ps_givenSlots_17 ?_
        have b_3 := iv_17 hI x2.toNat
        refine ir_if_eq (tgt := 24) hC.1 hC.2.1 d_ps_givenSlots_18 (by decide) ⟨by omega, by omega⟩ (fun c_4 => ?_) (fun c_4 => ?_)
        · skip
          refine lv_iinc (v := iI (x2 + 1)) (lv' := [(2, .int (iI (x2 + 1))), (1, .int (iI (x1))), (0, .ref (G.2.1 3))]) hC.1 hC.2.1 d_ps_givenSlots_24 hl (k := 0) rfl (iI_add _ _) (by decide) rfl (fun ls hl => ?_)
          refine lv_goto (tgt := 4) hC.1 hC.2.1 d_ps_givenSlots_27 (by decide) ?_
          exact ih_4 (k + 1) _ _ (by omega) (by have g := gSum_s S k; rw [← ek] at g ⊢; omega) (by first | rfl | omega) (by omega) _ (lv_sub hl [0, 1, 2] rfl)
        · skip
          refine lv_iinc (v := iI (x1 + 1)) (lv' := [(1, .int (iI (x1 + 1))), (2, .int (iI (x2))), (0, .ref (G.2.1 3))]) hC.1 hC.2.1 d_ps_givenSlots_21 hl (k := 1) rfl (iI_add _ _) (by decide) rfl (fun ls hl => ?_)
          refine lv_iinc (v := iI (x2 + 1)) (lv' := [(2, .int (iI (x2 + 1))), (1, .int (iI (x1 + 1))), (0, .ref (G.2.1 3))]) hC.1 hC.2.1 d_ps_givenSlots_24 hl (k := 1) rfl (iI_add _ _) (by decide) rfl (fun ls hl => ?_)
          refine lv_goto (tgt := 4) hC.1 hC.2.1 d_ps_givenSlots_27 (by decide) ?_
          exact ih_4 (k + 1) _ _ (by omega) (by have g := gSum_s S k; rw [← ek] at g ⊢; omega) (by first | rfl | omega) (by omega) _ (lv_sub hl [0, 1, 2] rfl)
  exact loop_4 _ 0 _ _ (Nat.lt_succ_self _) (by first | rfl | omega) (by first | rfl | omega) (by omega) _ (lv_sub hl [0, 1, 2] rfl)

/-! the class, as functions of the state: weighing a stay -/
def voy (S : St) (sh a b : Int) : Bool := wn sh 0 (S 2 0 - 1) && (wn a 0 7 && wn b 0 7)
def stB (S : St) (k : Int) : Bool := !decide (S 17 k.toNat = 0) && decide (S 0 6 < S 19 k.toNat)
theorem voy_t {S : St} {sh a b : Int} (h : voy S sh a b = true) : (0 ≤ sh ∧ sh ≤ S 2 0 - 1) ∧ (0 ≤ a ∧ a ≤ 7) ∧ (0 ≤ b ∧ b ≤ 7) := by simpa [voy, wn] using h
theorem stB_t {S : St} {k : Int} (h : stB S k = true) : ¬ S 17 k.toNat = 0 ∧ S 0 6 < S 19 k.toNat := by simpa [stB] using h
def gMk (S : St) (k : Int) : Int := if wn k 1 (S 3 0) = true then (if S 17 k.toNat = 0 then 0 else 1) else -1
def fts (S : St) (sh q : Int) : Bool := decide (S 14 sh.toNat ≤ S 9 q.toNat)
def tTm (S : St) (sh q : Int) : Int := if S 15 sh.toNat < 1 then 1000000 else (S 8 q.toNat + S 15 sh.toNat - 1) / S 15 sh.toNat
theorem tTm_b {S : St} (h : Inv S) (sh q : Int) : 0 ≤ tTm S sh q ∧ tTm S sh q ≤ 1000000 := by
  have h1 := iv_15 h sh.toNat
  have h2 := iv_8 h q.toNat
  unfold tTm
  split
  · omega
  · refine ⟨Int.ediv_nonneg (by omega) (by omega), ?_⟩
    have := Int.ediv_le_self (S 15 sh.toNat) (a := S 8 q.toNat + S 15 sh.toNat - 1) (by omega)
    omega
def agW (S : St) (row i : Int) : Bool := decide (rOf S (pOf S row i) 0 = if fOf S row i = 0 then 1 else 2)
def bNt (S : St) (row i : Int) : Bool := !decide (rOf S (pOf S row i) 1 = 0) && (decide (rOf S (pOf S row i) 1 ≤ S 16 (S 18 row.toNat).toNat) && (decide (enA S row i % 1440 < 300) || decide (1200 ≤ enA S row i % 1440 + lvA S row i - enA S row i - 1)))
def bWd (S : St) (row i : Int) : Bool := !decide (S 0 5 = 0) && decide (rOf S (pOf S row i) 2 < S 14 (S 18 row.toNat).toNat)
def clF (S : St) (q a b : Int) : Nat → Int
  | 0 => 0
  | k + 1 => if shm a b (S 12 (q * 4 + (k : Int)).toNat) (S 13 (q * 4 + (k : Int)).toNat) = true then max (clF S q a b k) (S 13 (q * 4 + (k : Int)).toNat - a) else clF S q a b k
theorem clF_s (S : St) (q a b : Int) (k : Nat) : clF S q a b (k + 1) = if shm a b (S 12 (q * 4 + (k : Int)).toNat) (S 13 (q * 4 + (k : Int)).toNat) = true then max (clF S q a b k) (S 13 (q * 4 + (k : Int)).toNat - a) else clF S q a b k := rfl
theorem clF_b {S : St} (h : Inv S) (q a b : Int) (k : Nat) (ha : 0 ≤ a ∧ a ≤ 1000000 := by omega) : 0 ≤ clF S q a b k ∧ clF S q a b k ≤ 100000 := by
  induction k with
  | zero => simp [clF]
  | succ k ih =>
    have h1 := iv_13 h (q * 4 + (k : Int)).toNat
    rw [clF_s]
    split
    · omega
    · exact ih
def bPc (S : St) (row i : Int) : Int := if agW S row i = true then 1 else if bNt S row i = true then 2 else if bWd S row i = true then 3 else if 0 < clF S (pOf S row i) (enA S row i) (lvA S row i) (S 11 (pOf S row i).toNat).toNat then 4 else 0
theorem bPc_b (S : St) (row i : Int) : 0 ≤ bPc S row i ∧ bPc S row i ≤ 4 := by
  unfold bPc
  repeat (first | omega | split)
def tWd (S : St) (a b q : Int) : Bool := decide (S 9 q.toNat < S 14 a.toNat + S 14 b.toNat)
def cfw (S : St) (k row i : Int) : Int :=
  if stO S k (pOf S row i) = -1 then 0
  else if shm (enA S row i) (lvA S row i) (enA S k (stO S k (pOf S row i))) (lvA S k (stO S k (pOf S row i))) = false then 0
  else if S 16 (S 18 row.toNat).toNat = 2 ∨ S 16 (S 18 k.toNat).toNat = 2 then 5
  else if ¬ fOf S row i = fOf S k (stO S k (pOf S row i)) then (if rOf S (pOf S row i) 3 = 1 ∨ S 9 (pOf S row i).toNat < S 14 (S 18 row.toNat).toNat + S 14 (S 18 k.toNat).toNat then 6 else 0)
  else if ovt S row i k (stO S k (pOf S row i)) = true ∧ (¬ rOf S (pOf S row i) 4 = 1 ∨ S 9 (pOf S row i).toNat < S 14 (S 18 row.toNat).toNat + S 14 (S 18 k.toNat).toNat) then 7 else 0
theorem cfw_b (S : St) (k row i : Int) : 0 ≤ cfw S k row i ∧ cfw S k row i ≤ 7 := by
  unfold cfw
  repeat (first | omega | split)
set_option maxHeartbeats 4000000 in
set_option maxRecDepth 100000 in
theorem c_cr_isVoyage (l : Launch) (G : Gt) (S : St) (sh : Int) (a : Int) (b : Int) (hI : Inv S) (hsh : i32 sh) (ha : i32 a) (hb : i32 b) : Met l y_cr_isVoyage [.code y_cr_isVoyage b_cr_isVoyage 4 (some .boolean)] { frames := 2, cells := 0, slots := 0, locals := 43 } (va_Pc [.ref (G.2.1 0), .int (iI (sh)), .int (iI (a)), .int (iI (b))] (fun U => wu G S U)) (qR (bI (voy S sh a b))) 0 0 (fun _ => False) := by
  refine mt_of (by decide +kernel) (Nat.le_of_ble_eq_true rfl) ?_
  intro p e s m below meth c ls hadm hC hr hlk hex hw hl
  have hC : CallFix p m c b_cr_isVoyage 4 s _ tws "ChannelRules" := hC
  have hl : lv_has ls 4 [(0, .ref (G.2.1 0)), (1, .int (iI (sh))), (2, .int (iI (a))), (3, .int (iI (b)))] := hl
  refine lv_aload_n hC.1 hC.2.1 d_cr_isVoyage_0 rfl (lv_at hl 0 rfl) ?_
  refine gf_cr_19 hC hw d_cr_isVoyage_1 ?_
  refine lv_iload_n hC.1 hC.2.1 d_cr_isVoyage_4 rfl (lv_at hl 1 rfl) ?_
  refine go_R (ca_V (As := [.int (iI (sh))]) (rest := []) hC hw (c_sh_has l G S sh hI (by omega)) (cv_cr_185 hC rfl rfl (Nat.le_of_ble_eq_true rfl) (Nat.le_of_ble_eq_true rfl)) (by decide) rfl rfl rfl hl.1 rfl (Nat.le_of_ble_eq_true rfl) d_cr_isVoyage_5 ⟨Nat.le_of_ble_eq_true rfl, Nat.le_of_ble_eq_true rfl⟩) ?_
  refine ir_beq (tgt := 29) hC d_cr_isVoyage_8 (by decide) (fun c_1 => ?_) (fun c_1 => ?_)
  · skip
    refine lv_iconst (v := iI 0) hC.1 hC.2.1 d_cr_isVoyage_29 rfl ?_
    exact rt_RZ hC hr hlk (by decide) (by first | rfl | (simp [voy, bI, c_1]; done) | (simp [voy, bI, c_1]; omega) | (simp [voy, bI, c_1] <;> split <;> omega) | omega) d_cr_isVoyage_30
  · skip
    have w_2 := wn_t c_1
    refine lv_iload_n hC.1 hC.2.1 d_cr_isVoyage_11 rfl (lv_at hl 2 rfl) ?_
    refine go_R (ca_S (As := [.int (iI (a))]) (rest := []) hC hw (c_cr_isPoint l G S a (by omega)) (cv_cr_45 hC rfl rfl (Nat.le_of_ble_eq_true rfl) (Nat.le_of_ble_eq_true rfl)) rfl hl.1 rfl (Nat.le_of_ble_eq_true rfl) d_cr_isVoyage_12 ⟨Nat.le_of_ble_eq_true rfl, Nat.le_of_ble_eq_true rfl⟩) ?_
    refine ir_beq (tgt := 29) hC d_cr_isVoyage_15 (by decide) (fun c_3 => ?_) (fun c_3 => ?_)
    · skip
      refine lv_iconst (v := iI 0) hC.1 hC.2.1 d_cr_isVoyage_29 rfl ?_
      exact rt_RZ hC hr hlk (by decide) (by first | rfl | (simp [voy, bI, c_1, c_3]; done) | (simp [voy, bI, c_1, c_3]; omega) | (simp [voy, bI, c_1, c_3] <;> split <;> omega) | omega) d_cr_isVoyage_30
    · skip
      have w_4 := wn_t c_3
      refine lv_iload_n hC.1 hC.2.1 d_cr_isVoyage_18 rfl (lv_at hl 3 rfl) ?_
      refine go_R (ca_S (As := [.int (iI (b))]) (rest := []) hC hw (c_cr_isPoint l G S b (by omega)) (cv_cr_45 hC rfl rfl (Nat.le_of_ble_eq_true rfl) (Nat.le_of_ble_eq_true rfl)) rfl hl.1 rfl (Nat.le_of_ble_eq_true rfl) d_cr_isVoyage_19 ⟨Nat.le_of_ble_eq_true rfl, Nat.le_of_ble_eq_true rfl⟩) ?_
      refine ir_beq (tgt := 29) hC d_cr_isVoyage_22 (by decide) (fun c_5 => ?_) (fun c_5 => ?_)
      · skip
        refine lv_iconst (v := iI 0) hC.1 hC.2.1 d_cr_isVoyage_29 rfl ?_
        exact rt_RZ hC hr hlk (by decide) (by first | rfl | (simp [voy, bI, c_1, c_3, c_5]; done) | (simp [voy, bI, c_1, c_3, c_5]; omega) | (simp [voy, bI, c_1, c_3, c_5] <;> split <;> omega) | omega) d_cr_isVoyage_30
      · skip
        have w_6 := wn_t c_5
        refine lv_iconst (v := iI 1) hC.1 hC.2.1 d_cr_isVoyage_25 rfl ?_
        refine lv_goto (tgt := 30) hC.1 hC.2.1 d_cr_isVoyage_26 (by decide) ?_
        exact rt_RZ hC hr hlk (by decide) (by first | rfl | (simp [voy, bI, c_1, c_3, c_5]; done) | (simp [voy, bI, c_1, c_3, c_5]; omega) | (simp [voy, bI, c_1, c_3, c_5] <;> split <;> omega) | omega) d_cr_isVoyage_30
set_option maxHeartbeats 4000000 in
set_option maxRecDepth 100000 in
theorem c_cr_isStillToBegin (l : Launch) (G : Gt) (S : St) (k : Int) (hI : Inv S) (hk : 0 ≤ k ∧ k ≤ 30) : Met l y_cr_isStillToBegin [.code y_cr_isStillToBegin b_cr_isStillToBegin 2 (some .boolean)] { frames := 0, cells := 0, slots := 0, locals := 0 } (va_Pc [.ref (G.2.1 0), .int (iI (k))] (fun U => wu G S U)) (qR (bI (stB S k))) 0 0 (fun _ => False) := by
  refine mt_of (by decide +kernel) (Nat.le_of_ble_eq_true rfl) ?_
  intro p e s m below meth c ls hadm hC hr hlk hex hw hl
  have hC : CallFix p m c b_cr_isStillToBegin 2 s _ tws "ChannelRules" := hC
  have hl : lv_has ls 2 [(0, .ref (G.2.1 0)), (1, .int (iI (k)))] := hl
  refine lv_aload_n hC.1 hC.2.1 d_cr_isStillToBegin_0 rfl (lv_at hl 0 rfl) ?_
  refine gf_cr_26 hC hw d_cr_isStillToBegin_1 ?_
  refine gf_cr_142 hC hw d_cr_isStillToBegin_4 ?_
  refine lv_iload_n hC.1 hC.2.1 d_cr_isStillToBegin_7 rfl (lv_at hl 1 rfl) ?_
  refine ld_17 hC hw (by omega) (by omega) d_cr_isStillToBegin_8 ?_
  have b_1 := iv_17 hI k.toNat
  refine ir_if_eq (tgt := 32) hC.1 hC.2.1 d_cr_isStillToBegin_9 (by decide) ⟨by omega, by omega⟩ (fun c_2 => ?_) (fun c_2 => ?_)
  · skip
    refine lv_iconst (v := iI 0) hC.1 hC.2.1 d_cr_isStillToBegin_32 rfl ?_
    exact rt_RZ hC hr hlk (by decide) (by first | rfl | (simp [stB, bI, c_2]; done) | (simp [stB, bI, c_2]; omega) | (simp [stB, bI, c_2] <;> split <;> omega) | omega) d_cr_isStillToBegin_33
  · skip
    refine lv_aload_n hC.1 hC.2.1 d_cr_isStillToBegin_12 rfl (lv_at hl 0 rfl) ?_
    refine gf_cr_26 hC hw d_cr_isStillToBegin_13 ?_
    refine gf_cr_115 hC hw d_cr_isStillToBegin_16 ?_
    refine lv_iload_n hC.1 hC.2.1 d_cr_isStillToBegin_19 rfl (lv_at hl 1 rfl) ?_
    refine ld_19 hC hw (by omega) (by omega) d_cr_isStillToBegin_20 ?_
    have b_3 := iv_19 hI k.toNat
    refine lv_aload_n hC.1 hC.2.1 d_cr_isStillToBegin_21 rfl (lv_at hl 0 rfl) ?_
    refine gf_cr_41 hC hw d_cr_isStillToBegin_22 ?_
    have b_4 := iv_0 hI 6
    refine ir_le (tgt := 32) hC.1 hC.2.1 d_cr_isStillToBegin_25 (by decide) ⟨by omega, by omega⟩ ⟨by omega, by omega⟩ (fun c_5 => ?_) (fun c_5 => ?_)
    · skip
      refine lv_iconst (v := iI 0) hC.1 hC.2.1 d_cr_isStillToBegin_32 rfl ?_
      exact rt_RZ hC hr hlk (by decide) (by first | rfl | (simp [stB, bI, c_2, c_5]; done) | (simp [stB, bI, c_2, c_5]; omega) | (simp [stB, bI, c_2, c_5] <;> split <;> omega) | omega) d_cr_isStillToBegin_33
    · skip
      refine lv_iconst (v := iI 1) hC.1 hC.2.1 d_cr_isStillToBegin_28 rfl ?_
      refine lv_goto (tgt := 33) hC.1 hC.2.1 d_cr_isStillToBegin_29 (by decide) ?_
      exact rt_RZ hC hr hlk (by decide) (by first | rfl | (simp [stB, bI, c_2, c_5]; done) | (simp [stB, bI, c_2, c_5]; omega) | (simp [stB, bI, c_2, c_5] <;> split <;> omega) | omega) d_cr_isStillToBegin_33
set_option maxHeartbeats 4000000 in
set_option maxRecDepth 100000 in
theorem c_cr_givenMark (l : Launch) (G : Gt) (S : St) (k : Int) (hI : Inv S) (hk : i32 k) : Met l y_cr_givenMark [.code y_cr_givenMark b_cr_givenMark 2 (some .int)] { frames := 2, cells := 0, slots := 0, locals := 43 } (va_Pc [.ref (G.2.1 0), .int (iI (k))] (fun U => wu G S U)) (qR (gMk S k)) 0 0 (fun _ => False) := by
  refine mt_of (by decide +kernel) (Nat.le_of_ble_eq_true rfl) ?_
  intro p e s m below meth c ls hadm hC hr hlk hex hw hl
  have hC : CallFix p m c b_cr_givenMark 2 s _ tws "ChannelRules" := hC
  have hl : lv_has ls 2 [(0, .ref (G.2.1 0)), (1, .int (iI (k)))] := hl
  refine lv_aload_n hC.1 hC.2.1 d_cr_givenMark_0 rfl (lv_at hl 0 rfl) ?_
  refine gf_cr_26 hC hw d_cr_givenMark_1 ?_
  refine lv_iload_n hC.1 hC.2.1 d_cr_givenMark_4 rfl (lv_at hl 1 rfl) ?_
  refine go_R (ca_V (As := [.int (iI (k))]) (rest := []) hC hw (c_ps_hasSlot l G S k hI (by omega)) (cv_cr_134 hC rfl rfl (Nat.le_of_ble_eq_true rfl) (Nat.le_of_ble_eq_true rfl)) (by decide) rfl rfl rfl hl.1 rfl (Nat.le_of_ble_eq_true rfl) d_cr_givenMark_5 ⟨Nat.le_of_ble_eq_true rfl, Nat.le_of_ble_eq_true rfl⟩) ?_
  have q_1 := iv_3 hI 0
  have q_2 : wn k 1 (S 3 0) = true → 1 ≤ k ∧ k ≤ S 3 0 := by simp [wn]
  refine ir_bne (tgt := 13) hC d_cr_givenMark_8 (by decide) (fun c_1 => ?_) (fun c_1 => ?_)
  · skip
    have w_2 := wn_t c_1
    refine lv_aload_n hC.1 hC.2.1 d_cr_givenMark_13 rfl (lv_at hl 0 rfl) ?_
    have q_3 := q_2 (by assumption)
    refine gf_cr_26 hC hw d_cr_givenMark_14 ?_
    refine gf_cr_142 hC hw d_cr_givenMark_17 ?_
    refine lv_iload_n hC.1 hC.2.1 d_cr_givenMark_20 rfl (lv_at hl 1 rfl) ?_
    refine ld_17 hC hw (by omega) (by omega) d_cr_givenMark_21 ?_
    have b_3 := iv_17 hI k.toNat
    refine ir_if_eq (tgt := 29) hC.1 hC.2.1 d_cr_givenMark_22 (by decide) ⟨by omega, by omega⟩ (fun c_4 => ?_) (fun c_4 => ?_)
    · skip
      refine lv_iconst (v := iI 0) hC.1 hC.2.1 d_cr_givenMark_29 rfl ?_
      exact rt_R hC hr hlk (by first | rfl | (simp [gMk, c_1, c_4]; done) | (simp [gMk, c_1, c_4]; omega) | (simp [gMk, c_1, c_4] <;> split <;> omega) | omega) d_cr_givenMark_30
    · skip
      refine lv_iconst (v := iI 1) hC.1 hC.2.1 d_cr_givenMark_25 rfl ?_
      refine lv_goto (tgt := 30) hC.1 hC.2.1 d_cr_givenMark_26 (by decide) ?_
      exact rt_R hC hr hlk (by first | rfl | (simp [gMk, c_1, c_4]; done) | (simp [gMk, c_1, c_4]; omega) | (simp [gMk, c_1, c_4] <;> split <;> omega) | omega) d_cr_givenMark_30
  · skip
    refine lv_iconst (v := iI (-1)) hC.1 hC.2.1 d_cr_givenMark_11 rfl ?_
    exact rt_R hC hr hlk (by first | rfl | (simp [gMk, c_1]; done) | (simp [gMk, c_1]; omega) | (simp [gMk, c_1] <;> split <;> omega) | omega) d_cr_givenMark_12
set_option maxHeartbeats 4000000 in
set_option maxRecDepth 100000 in
theorem c_cr_fits (l : Launch) (G : Gt) (S : St) (sh : Int) (q : Int) (hI : Inv S) (hsh : 0 ≤ sh ∧ sh < 12) (hq : 0 ≤ q ∧ q < 12) : Met l y_cr_fits [.code y_cr_fits b_cr_fits 3 (some .boolean)] { frames := 0, cells := 0, slots := 0, locals := 0 } (va_Pc [.ref (G.2.1 0), .int (iI (sh)), .int (iI (q))] (fun U => wu G S U)) (qR (bI (fts S sh q))) 0 0 (fun _ => False) := by
  refine mt_of (by decide +kernel) (Nat.le_of_ble_eq_true rfl) ?_
  intro p e s m below meth c ls hadm hC hr hlk hex hw hl
  have hC : CallFix p m c b_cr_fits 3 s _ tws "ChannelRules" := hC
  have hl : lv_has ls 3 [(0, .ref (G.2.1 0)), (1, .int (iI (sh))), (2, .int (iI (q)))] := hl
  refine lv_aload_n hC.1 hC.2.1 d_cr_fits_0 rfl (lv_at hl 0 rfl) ?_
  refine gf_cr_12 hC hw d_cr_fits_1 ?_
  refine gf_cr_220 hC hw d_cr_fits_4 ?_
  refine lv_iload_n hC.1 hC.2.1 d_cr_fits_7 rfl (lv_at hl 2 rfl) ?_
  refine ld_9 hC hw (by omega) (by omega) d_cr_fits_8 ?_
  have b_1 := iv_9 hI q.toNat
  refine lv_aload_n hC.1 hC.2.1 d_cr_fits_9 rfl (lv_at hl 0 rfl) ?_
  refine gf_cr_19 hC hw d_cr_fits_10 ?_
  refine gf_cr_223 hC hw d_cr_fits_13 ?_
  refine lv_iload_n hC.1 hC.2.1 d_cr_fits_16 rfl (lv_at hl 1 rfl) ?_
  refine ld_14 hC hw (by omega) (by omega) d_cr_fits_17 ?_
  have b_2 := iv_14 hI sh.toNat
  refine ir_lt (tgt := 25) hC.1 hC.2.1 d_cr_fits_18 (by decide) ⟨by omega, by omega⟩ ⟨by omega, by omega⟩ (fun c_3 => ?_) (fun c_3 => ?_)
  · skip
    refine lv_iconst (v := iI 0) hC.1 hC.2.1 d_cr_fits_25 rfl ?_
    exact rt_RZ hC hr hlk (by decide) (by first | rfl | (simp [fts, bI, c_3]; done) | (simp [fts, bI, c_3]; omega) | (simp [fts, bI, c_3] <;> split <;> omega) | omega) d_cr_fits_26
  · skip
    refine lv_iconst (v := iI 1) hC.1 hC.2.1 d_cr_fits_21 rfl ?_
    refine lv_goto (tgt := 26) hC.1 hC.2.1 d_cr_fits_22 (by decide) ?_
    exact rt_RZ hC hr hlk (by decide) (by first | rfl | (simp [fts, bI, c_3]; done) | (simp [fts, bI, c_3]; omega) | (simp [fts, bI, c_3] <;> split <;> omega) | omega) d_cr_fits_26
set_option maxHeartbeats 4000000 in
set_option maxRecDepth 100000 in
theorem c_cr_travelTime (l : Launch) (G : Gt) (S : St) (sh : Int) (q : Int) (hI : Inv S) (hsh : 0 ≤ sh ∧ sh < 12) (hq : 0 ≤ q ∧ q < 12) : Met l y_cr_travelTime [.code y_cr_travelTime b_cr_travelTime 4 (some .int)] { frames := 0, cells := 0, slots := 0, locals := 0 } (va_Pc [.ref (G.2.1 0), .int (iI (sh)), .int (iI (q))] (fun U => wu G S U)) (qR (tTm S sh q)) 0 0 (fun _ => False) := by
  refine mt_of (by decide +kernel) (Nat.le_of_ble_eq_true rfl) ?_
  intro p e s m below meth c ls hadm hC hr hlk hex hw hl
  have hC : CallFix p m c b_cr_travelTime 4 s _ tws "ChannelRules" := hC
  have hl : lv_has ls 4 [(0, .ref (G.2.1 0)), (1, .int (iI (sh))), (2, .int (iI (q)))] := hl
  refine lv_aload_n hC.1 hC.2.1 d_cr_travelTime_0 rfl (lv_at hl 0 rfl) ?_
  refine gf_cr_19 hC hw d_cr_travelTime_1 ?_
  refine gf_cr_224 hC hw d_cr_travelTime_4 ?_
  refine lv_iload_n hC.1 hC.2.1 d_cr_travelTime_7 rfl (lv_at hl 1 rfl) ?_
  refine ld_15 hC hw (by omega) (by omega) d_cr_travelTime_8 ?_
  have b_1 := iv_15 hI sh.toNat
  refine lv_istore_n (lv' := [(3, .int (iI (S 15 sh.toNat))), (0, .ref (G.2.1 0)), (1, .int (iI (sh))), (2, .int (iI (q)))]) hC.1 hC.2.1 d_cr_travelTime_9 rfl hl (by decide) rfl (fun ls hl => ?_)
  refine lv_iload_n hC.1 hC.2.1 d_cr_travelTime_10 rfl (lv_at hl 0 rfl) ?_
  refine lv_iconst (v := iI 1) hC.1 hC.2.1 d_cr_travelTime_11 rfl ?_
  refine ir_ge (tgt := 18) hC.1 hC.2.1 d_cr_travelTime_12 (by decide) ⟨by omega, by omega⟩ (by decide) (fun c_2 => ?_) (fun c_2 => ?_)
  · skip
    refine lv_aload_n hC.1 hC.2.1 d_cr_travelTime_18 rfl (lv_at hl 1 rfl) ?_
    refine gf_cr_12 hC hw d_cr_travelTime_19 ?_
    refine gf_cr_227 hC hw d_cr_travelTime_22 ?_
    refine lv_iload_n hC.1 hC.2.1 d_cr_travelTime_25 rfl (lv_at hl 3 rfl) ?_
    refine ld_8 hC hw (by omega) (by omega) d_cr_travelTime_26 ?_
    have b_3 := iv_8 hI q.toNat
    refine lv_iload_n hC.1 hC.2.1 d_cr_travelTime_27 rfl (lv_at hl 0 rfl) ?_
    refine ir_add hC.1 hC.2.1 d_cr_travelTime_28 ?_
    refine lv_iconst (v := iI 1) hC.1 hC.2.1 d_cr_travelTime_29 rfl ?_
    refine ir_sub hC.1 hC.2.1 d_cr_travelTime_30 ?_
    refine lv_iload_n hC.1 hC.2.1 d_cr_travelTime_31 rfl (lv_at hl 0 rfl) ?_
    refine ir_div hC.1 hC.2.1 (by omega) (by omega) (by omega) (by omega) d_cr_travelTime_32 ?_
    exact rt_R hC hr hlk (by first | rfl | (simp [tTm, c_2]; done) | (simp [tTm, c_2]; omega) | (simp [tTm, c_2] <;> split <;> omega) | omega) d_cr_travelTime_33
  · skip
    refine ir_ldc hC 1000000 tw_388 (by decide +kernel) d_cr_travelTime_15 ?_
    exact rt_R hC hr hlk (by first | rfl | (simp [tTm, c_2]; done) | (simp [tTm, c_2]; omega) | (simp [tTm, c_2] <;> split <;> omega) | omega) d_cr_travelTime_17
set_option maxHeartbeats 4000000 in
set_option maxRecDepth 100000 in
theorem c_cr_isAgainstOneWay (l : Launch) (G : Gt) (S : St) (row : Int) (i : Int) (hI : Inv S) (hrow : 0 ≤ row ∧ row ≤ 30) (hi : 0 ≤ i ∧ i < 7) : Met l y_cr_isAgainstOneWay [.code y_cr_isAgainstOneWay b_cr_isAgainstOneWay 4 (some .boolean)] { frames := 1, cells := 0, slots := 0, locals := 22 } (va_Pc [.ref (G.2.1 0), .int (iI (row)), .int (iI (i))] (fun U => wu G S U)) (qR (bI (agW S row i))) 0 0 (fun _ => False) := by
  refine mt_of (by decide +kernel) (Nat.le_of_ble_eq_true rfl) ?_
  intro p e s m below meth c ls hadm hC hr hlk hex hw hl
  have hC : CallFix p m c b_cr_isAgainstOneWay 4 s _ tws "ChannelRules" := hC
  have hl : lv_has ls 4 [(0, .ref (G.2.1 0)), (1, .int (iI (row))), (2, .int (iI (i)))] := hl
  refine lv_aload_n hC.1 hC.2.1 d_cr_isAgainstOneWay_0 rfl (lv_at hl 0 rfl) ?_
  refine gf_cr_12 hC hw d_cr_isAgainstOneWay_1 ?_
  refine lv_aload_n hC.1 hC.2.1 d_cr_isAgainstOneWay_4 rfl (lv_at hl 0 rfl) ?_
  refine gf_cr_26 hC hw d_cr_isAgainstOneWay_5 ?_
  refine lv_iload_n hC.1 hC.2.1 d_cr_isAgainstOneWay_8 rfl (lv_at hl 1 rfl) ?_
  refine lv_iload_n hC.1 hC.2.1 d_cr_isAgainstOneWay_9 rfl (lv_at hl 2 rfl) ?_
  refine go_R (ca_V (As := [.int (iI (row)), .int (iI (i))]) (rest := [.ref (G.2.1 1)]) hC hw (c_ps_pieceOf l G S row i hI (by omega) (by omega)) (cv_cr_100 hC rfl rfl (Nat.le_of_ble_eq_true rfl) (Nat.le_of_ble_eq_true rfl)) (by decide) rfl rfl rfl hl.1 rfl (Nat.le_of_ble_eq_true rfl) d_cr_isAgainstOneWay_10 ⟨Nat.le_of_ble_eq_true rfl, Nat.le_of_ble_eq_true rfl⟩) ?_
  have r_1 := pOf_b hI row i
  refine lv_iconst (v := iI 0) hC.1 hC.2.1 d_cr_isAgainstOneWay_13 rfl ?_
  refine go_R (ca_V (As := [.int (iI (pOf S row i)), .int (iI (0))]) (rest := []) hC hw (c_pc_ruleOf l G S (pOf S row i) 0 hI (by omega) (by omega)) (cv_cr_248 hC rfl rfl (Nat.le_of_ble_eq_true rfl) (Nat.le_of_ble_eq_true rfl)) (by decide) rfl rfl rfl hl.1 rfl (Nat.le_of_ble_eq_true rfl) d_cr_isAgainstOneWay_14 ⟨Nat.le_of_ble_eq_true rfl, Nat.le_of_ble_eq_true rfl⟩) ?_
  have r_2 := rOf_b hI (pOf S row i) 0
  refine lv_istore_n (lv' := [(3, .int (iI (rOf S (pOf S row i) 0))), (0, .ref (G.2.1 0)), (1, .int (iI (row))), (2, .int (iI (i)))]) hC.1 hC.2.1 d_cr_isAgainstOneWay_17 rfl hl (by decide) rfl (fun ls hl => ?_)
  refine lv_iload_n hC.1 hC.2.1 d_cr_isAgainstOneWay_18 rfl (lv_at hl 0 rfl) ?_
  refine lv_aload_n hC.1 hC.2.1 d_cr_isAgainstOneWay_19 rfl (lv_at hl 1 rfl) ?_
  refine gf_cr_26 hC hw d_cr_isAgainstOneWay_20 ?_
  refine lv_iload_n hC.1 hC.2.1 d_cr_isAgainstOneWay_23 rfl (lv_at hl 2 rfl) ?_
  refine lv_iload_n hC.1 hC.2.1 d_cr_isAgainstOneWay_24 rfl (lv_at hl 3 rfl) ?_
  refine go_R (ca_V (As := [.int (iI (row)), .int (iI (i))]) (rest := [.int (iI (rOf S (pOf S row i) 0))]) hC hw (c_ps_isForward l G S row i hI (by omega) (by omega)) (cv_cr_175 hC rfl rfl (Nat.le_of_ble_eq_true rfl) (Nat.le_of_ble_eq_true rfl)) (by decide) rfl rfl rfl hl.1 rfl (Nat.le_of_ble_eq_true rfl) d_cr_isAgainstOneWay_25 ⟨Nat.le_of_ble_eq_true rfl, Nat.le_of_ble_eq_true rfl⟩) ?_
  have r_3 := fOf_b hI row i
  refine ir_if_eq (tgt := 35) hC.1 hC.2.1 d_cr_isAgainstOneWay_28 (by decide) ⟨by omega, by omega⟩ (fun c_4 => ?_) (fun c_4 => ?_)
  · skip
    refine lv_iconst (v := iI 1) hC.1 hC.2.1 d_cr_isAgainstOneWay_35 rfl ?_
    refine ir_ne (tgt := 43) hC.1 hC.2.1 d_cr_isAgainstOneWay_36 (by decide) ⟨by omega, by omega⟩ (by decide) (fun c_5 => ?_) (fun c_5 => ?_)
    · skip
      refine lv_iconst (v := iI 0) hC.1 hC.2.1 d_cr_isAgainstOneWay_43 rfl ?_
      exact rt_RZ hC hr hlk (by decide) (by first | rfl | (simp [agW, bI, c_4, c_5]; done) | (simp [agW, bI, c_4, c_5]; omega) | (simp [agW, bI, c_4, c_5] <;> split <;> omega) | omega) d_cr_isAgainstOneWay_44
    · skip
      refine lv_iconst (v := iI 1) hC.1 hC.2.1 d_cr_isAgainstOneWay_39 rfl ?_
      refine lv_goto (tgt := 44) hC.1 hC.2.1 d_cr_isAgainstOneWay_40 (by decide) ?_
      exact rt_RZ hC hr hlk (by decide) (by first | rfl | (simp [agW, bI, c_4, c_5]; done) | (simp [agW, bI, c_4, c_5]; omega) | (simp [agW, bI, c_4, c_5] <;> split <;> omega) | omega) d_cr_isAgainstOneWay_44
  · skip
    refine lv_iconst (v := iI 2) hC.1 hC.2.1 d_cr_isAgainstOneWay_31 rfl ?_
    refine lv_goto (tgt := 36) hC.1 hC.2.1 d_cr_isAgainstOneWay_32 (by decide) ?_
    refine ir_ne (tgt := 43) hC.1 hC.2.1 d_cr_isAgainstOneWay_36 (by decide) ⟨by omega, by omega⟩ (by decide) (fun c_6 => ?_) (fun c_6 => ?_)
    · skip
      refine lv_iconst (v := iI 0) hC.1 hC.2.1 d_cr_isAgainstOneWay_43 rfl ?_
      exact rt_RZ hC hr hlk (by decide) (by first | rfl | (simp [agW, bI, c_4, c_6]; done) | (simp [agW, bI, c_4, c_6]; omega) | (simp [agW, bI, c_4, c_6] <;> split <;> omega) | omega) d_cr_isAgainstOneWay_44
    · skip
      refine lv_iconst (v := iI 1) hC.1 hC.2.1 d_cr_isAgainstOneWay_39 rfl ?_
      refine lv_goto (tgt := 44) hC.1 hC.2.1 d_cr_isAgainstOneWay_40 (by decide) ?_
      exact rt_RZ hC hr hlk (by decide) (by first | rfl | (simp [agW, bI, c_4, c_6]; done) | (simp [agW, bI, c_4, c_6]; omega) | (simp [agW, bI, c_4, c_6] <;> split <;> omega) | omega) d_cr_isAgainstOneWay_44
set_option maxHeartbeats 4000000 in
set_option maxRecDepth 100000 in
theorem c_cr_isBarredAtNight (l : Launch) (G : Gt) (S : St) (row : Int) (i : Int) (hI : Inv S) (hrow : 0 ≤ row ∧ row ≤ 30) (hi : 0 ≤ i ∧ i < 7) : Met l y_cr_isBarredAtNight [.code y_cr_isBarredAtNight b_cr_isBarredAtNight 7 (some .boolean)] { frames := 1, cells := 0, slots := 0, locals := 22 } (va_Pc [.ref (G.2.1 0), .int (iI (row)), .int (iI (i))] (fun U => wu G S U)) (qR (bI (bNt S row i))) 0 0 (fun _ => False) := by
  refine mt_of (by decide +kernel) (Nat.le_of_ble_eq_true rfl) ?_
  intro p e s m below meth c ls hadm hC hr hlk hex hw hl
  have hC : CallFix p m c b_cr_isBarredAtNight 7 s _ tws "ChannelRules" := hC
  have hl : lv_has ls 7 [(0, .ref (G.2.1 0)), (1, .int (iI (row))), (2, .int (iI (i)))] := hl
  refine lv_aload_n hC.1 hC.2.1 d_cr_isBarredAtNight_0 rfl (lv_at hl 0 rfl) ?_
  refine gf_cr_12 hC hw d_cr_isBarredAtNight_1 ?_
  refine lv_aload_n hC.1 hC.2.1 d_cr_isBarredAtNight_4 rfl (lv_at hl 0 rfl) ?_
  refine gf_cr_26 hC hw d_cr_isBarredAtNight_5 ?_
  refine lv_iload_n hC.1 hC.2.1 d_cr_isBarredAtNight_8 rfl (lv_at hl 1 rfl) ?_
  refine lv_iload_n hC.1 hC.2.1 d_cr_isBarredAtNight_9 rfl (lv_at hl 2 rfl) ?_
  refine go_R (ca_V (As := [.int (iI (row)), .int (iI (i))]) (rest := [.ref (G.2.1 1)]) hC hw (c_ps_pieceOf l G S row i hI (by omega) (by omega)) (cv_cr_100 hC rfl rfl (Nat.le_of_ble_eq_true rfl) (Nat.le_of_ble_eq_true rfl)) (by decide) rfl rfl rfl hl.1 rfl (Nat.le_of_ble_eq_true rfl) d_cr_isBarredAtNight_10 ⟨Nat.le_of_ble_eq_true rfl, Nat.le_of_ble_eq_true rfl⟩) ?_
  have r_1 := pOf_b hI row i
  refine lv_iconst (v := iI 1) hC.1 hC.2.1 d_cr_isBarredAtNight_13 rfl ?_
  refine go_R (ca_V (As := [.int (iI (pOf S row i)), .int (iI (1))]) (rest := []) hC hw (c_pc_ruleOf l G S (pOf S row i) 1 hI (by omega) (by omega)) (cv_cr_248 hC rfl rfl (Nat.le_of_ble_eq_true rfl) (Nat.le_of_ble_eq_true rfl)) (by decide) rfl rfl rfl hl.1 rfl (Nat.le_of_ble_eq_true rfl) d_cr_isBarredAtNight_14 ⟨Nat.le_of_ble_eq_true rfl, Nat.le_of_ble_eq_true rfl⟩) ?_
  have r_2 := rOf_b hI (pOf S row i) 1
  refine lv_istore_n (lv' := [(3, .int (iI (rOf S (pOf S row i) 1))), (0, .ref (G.2.1 0)), (1, .int (iI (row))), (2, .int (iI (i)))]) hC.1 hC.2.1 d_cr_isBarredAtNight_17 rfl hl (by decide) rfl (fun ls hl => ?_)
  refine lv_iload_n hC.1 hC.2.1 d_cr_isBarredAtNight_18 rfl (lv_at hl 0 rfl) ?_
  refine ir_if_eq (tgt := 43) hC.1 hC.2.1 d_cr_isBarredAtNight_19 (by decide) ⟨by omega, by omega⟩ (fun c_3 => ?_) (fun c_3 => ?_)
  · skip
    refine lv_iconst (v := iI 0) hC.1 hC.2.1 d_cr_isBarredAtNight_43 rfl ?_
    exact rt_RZ hC hr hlk (by decide) (by first | rfl | (simp [bNt, bI, c_3]; done) | (simp [bNt, bI, c_3]; omega) | (simp [bNt, bI, c_3] <;> split <;> omega) | omega) d_cr_isBarredAtNight_44
  · skip
    refine lv_aload_n hC.1 hC.2.1 d_cr_isBarredAtNight_22 rfl (lv_at hl 1 rfl) ?_
    refine gf_cr_19 hC hw d_cr_isBarredAtNight_23 ?_
    refine gf_cr_251 hC hw d_cr_isBarredAtNight_26 ?_
    refine lv_aload_n hC.1 hC.2.1 d_cr_isBarredAtNight_29 rfl (lv_at hl 1 rfl) ?_
    refine gf_cr_26 hC hw d_cr_isBarredAtNight_30 ?_
    refine gf_cr_254 hC hw d_cr_isBarredAtNight_33 ?_
    refine lv_iload_n hC.1 hC.2.1 d_cr_isBarredAtNight_36 rfl (lv_at hl 2 rfl) ?_
    refine ld_18 hC hw (by omega) (by omega) d_cr_isBarredAtNight_37 ?_
    have b_4 := iv_18 hI row.toNat
    refine ld_16 hC hw (by omega) (by omega) d_cr_isBarredAtNight_38 ?_
    have b_5 := iv_16 hI ((S 18 row.toNat).toNat)
    refine lv_iload_n hC.1 hC.2.1 d_cr_isBarredAtNight_39 rfl (lv_at hl 0 rfl) ?_
    refine ir_ge (tgt := 45) hC.1 hC.2.1 d_cr_isBarredAtNight_40 (by decide) ⟨by omega, by omega⟩ ⟨by omega, by omega⟩ (fun c_6 => ?_) (fun c_6 => ?_)
    · skip
      refine lv_aload_n hC.1 hC.2.1 d_cr_isBarredAtNight_45 rfl (lv_at hl 1 rfl) ?_
      refine gf_cr_26 hC hw d_cr_isBarredAtNight_46 ?_
      refine lv_iload_n hC.1 hC.2.1 d_cr_isBarredAtNight_49 rfl (lv_at hl 2 rfl) ?_
      refine lv_iload_n hC.1 hC.2.1 d_cr_isBarredAtNight_50 rfl (lv_at hl 3 rfl) ?_
      refine go_R (ca_V (As := [.int (iI (row)), .int (iI (i))]) (rest := []) hC hw (c_ps_entersAt l G S row i hI (by omega) (by omega)) (cv_cr_169 hC rfl rfl (Nat.le_of_ble_eq_true rfl) (Nat.le_of_ble_eq_true rfl)) (by decide) rfl rfl rfl hl.1 rfl (Nat.le_of_ble_eq_true rfl) d_cr_isBarredAtNight_51 ⟨Nat.le_of_ble_eq_true rfl, Nat.le_of_ble_eq_true rfl⟩) ?_
      have r_7 := enA_b hI row i
      refine lv_istore (lv' := [(4, .int (iI (enA S row i))), (3, .int (iI (rOf S (pOf S row i) 1))), (0, .ref (G.2.1 0)), (1, .int (iI (row))), (2, .int (iI (i)))]) hC.1 hC.2.1 d_cr_isBarredAtNight_54 hl (by decide) rfl (fun ls hl => ?_)
      refine lv_iload hC.1 hC.2.1 d_cr_isBarredAtNight_56 (lv_at hl 0 rfl) ?_
      refine lv_sipush (v := iI 1440) hC.1 hC.2.1 d_cr_isBarredAtNight_58 (by decide +kernel) ?_
      refine ir_rem hC.1 hC.2.1 (by omega) (by omega) (by omega) (by omega) d_cr_isBarredAtNight_61 ?_
      refine lv_istore (lv' := [(5, .int (iI ((enA S row i) % 1440))), (4, .int (iI (enA S row i))), (3, .int (iI (rOf S (pOf S row i) 1))), (0, .ref (G.2.1 0)), (1, .int (iI (row))), (2, .int (iI (i)))]) hC.1 hC.2.1 d_cr_isBarredAtNight_62 hl (by decide) rfl (fun ls hl => ?_)
      refine lv_iload hC.1 hC.2.1 d_cr_isBarredAtNight_64 (lv_at hl 0 rfl) ?_
      refine lv_aload_n hC.1 hC.2.1 d_cr_isBarredAtNight_66 rfl (lv_at hl 3 rfl) ?_
      refine gf_cr_26 hC hw d_cr_isBarredAtNight_67 ?_
      refine lv_iload_n hC.1 hC.2.1 d_cr_isBarredAtNight_70 rfl (lv_at hl 4 rfl) ?_
      refine lv_iload_n hC.1 hC.2.1 d_cr_isBarredAtNight_71 rfl (lv_at hl 5 rfl) ?_
      refine go_R (ca_V (As := [.int (iI (row)), .int (iI (i))]) (rest := [.int (iI ((enA S row i) % 1440))]) hC hw (c_ps_leavesAt l G S row i hI (by omega) (by omega)) (cv_cr_172 hC rfl rfl (Nat.le_of_ble_eq_true rfl) (Nat.le_of_ble_eq_true rfl)) (by decide) rfl rfl rfl hl.1 rfl (Nat.le_of_ble_eq_true rfl) d_cr_isBarredAtNight_72 ⟨Nat.le_of_ble_eq_true rfl, Nat.le_of_ble_eq_true rfl⟩) ?_
      have r_8 := lvA_b hI row i
      refine ir_add hC.1 hC.2.1 d_cr_isBarredAtNight_75 ?_
      refine lv_iload hC.1 hC.2.1 d_cr_isBarredAtNight_76 (lv_at hl 1 rfl) ?_
      refine ir_sub hC.1 hC.2.1 d_cr_isBarredAtNight_78 ?_
      refine lv_iconst (v := iI 1) hC.1 hC.2.1 d_cr_isBarredAtNight_79 rfl ?_
      refine ir_sub hC.1 hC.2.1 d_cr_isBarredAtNight_80 ?_
      refine lv_istore (lv' := [(6, .int (iI (((((enA S row i) % 1440) + (lvA S row i)) - (enA S row i)) - 1))), (5, .int (iI ((enA S row i) % 1440))), (4, .int (iI (enA S row i))), (3, .int (iI (rOf S (pOf S row i) 1))), (0, .ref (G.2.1 0)), (1, .int (iI (row))), (2, .int (iI (i)))]) hC.1 hC.2.1 d_cr_isBarredAtNight_81 hl (by decide) rfl (fun ls hl => ?_)
      refine lv_iload hC.1 hC.2.1 d_cr_isBarredAtNight_83 (lv_at hl 1 rfl) ?_
      refine lv_sipush (v := iI 300) hC.1 hC.2.1 d_cr_isBarredAtNight_85 (by decide +kernel) ?_
      refine ir_lt (tgt := 99) hC.1 hC.2.1 d_cr_isBarredAtNight_88 (by decide) ⟨by omega, by omega⟩ (by decide) (fun c_9 => ?_) (fun c_9 => ?_)
      · skip
        refine lv_iconst (v := iI 1) hC.1 hC.2.1 d_cr_isBarredAtNight_99 rfl ?_
        refine lv_goto (tgt := 104) hC.1 hC.2.1 d_cr_isBarredAtNight_100 (by decide) ?_
        exact rt_RZ hC hr hlk (by decide) (by first | rfl | (simp [bNt, bI, c_3, c_6, c_9]; done) | (simp [bNt, bI, c_3, c_6, c_9]; omega) | (simp [bNt, bI, c_3, c_6, c_9] <;> split <;> omega) | omega) d_cr_isBarredAtNight_104
      · skip
        refine lv_iload hC.1 hC.2.1 d_cr_isBarredAtNight_91 (lv_at hl 0 rfl) ?_
        refine lv_sipush (v := iI 1200) hC.1 hC.2.1 d_cr_isBarredAtNight_93 (by decide +kernel) ?_
        refine ir_lt (tgt := 103) hC.1 hC.2.1 d_cr_isBarredAtNight_96 (by decide) ⟨by omega, by omega⟩ (by decide) (fun c_10 => ?_) (fun c_10 => ?_)
        · skip
          refine lv_iconst (v := iI 0) hC.1 hC.2.1 d_cr_isBarredAtNight_103 rfl ?_
          exact rt_RZ hC hr hlk (by decide) (by first | rfl | (simp [bNt, bI, c_3, c_6, c_9, c_10]; done) | (simp [bNt, bI, c_3, c_6, c_9, c_10]; omega) | (simp [bNt, bI, c_3, c_6, c_9, c_10] <;> split <;> omega) | omega) d_cr_isBarredAtNight_104
        · skip
          refine lv_iconst (v := iI 1) hC.1 hC.2.1 d_cr_isBarredAtNight_99 rfl ?_
          refine lv_goto (tgt := 104) hC.1 hC.2.1 d_cr_isBarredAtNight_100 (by decide) ?_
          exact rt_RZ hC hr hlk (by decide) (by first | rfl | (simp [bNt, bI, c_3, c_6, c_9, c_10]; done) | (simp [bNt, bI, c_3, c_6, c_9, c_10]; omega) | (simp [bNt, bI, c_3, c_6, c_9, c_10] <;> split <;> omega) | omega) d_cr_isBarredAtNight_104
    · skip
      refine lv_iconst (v := iI 0) hC.1 hC.2.1 d_cr_isBarredAtNight_43 rfl ?_
      exact rt_RZ hC hr hlk (by decide) (by first | rfl | (simp [bNt, bI, c_3, c_6]; done) | (simp [bNt, bI, c_3, c_6]; omega) | (simp [bNt, bI, c_3, c_6] <;> split <;> omega) | omega) d_cr_isBarredAtNight_44
set_option maxHeartbeats 4000000 in
set_option maxRecDepth 100000 in
theorem c_cr_isBarredInWind (l : Launch) (G : Gt) (S : St) (row : Int) (i : Int) (hI : Inv S) (hrow : 0 ≤ row ∧ row ≤ 30) (hi : 0 ≤ i ∧ i < 7) : Met l y_cr_isBarredInWind [.code y_cr_isBarredInWind b_cr_isBarredInWind 4 (some .boolean)] { frames := 1, cells := 0, slots := 0, locals := 22 } (va_Pc [.ref (G.2.1 0), .int (iI (row)), .int (iI (i))] (fun U => wu G S U)) (qR (bI (bWd S row i))) 0 0 (fun _ => False) := by
  refine mt_of (by decide +kernel) (Nat.le_of_ble_eq_true rfl) ?_
  intro p e s m below meth c ls hadm hC hr hlk hex hw hl
  have hC : CallFix p m c b_cr_isBarredInWind 4 s _ tws "ChannelRules" := hC
  have hl : lv_has ls 4 [(0, .ref (G.2.1 0)), (1, .int (iI (row))), (2, .int (iI (i)))] := hl
  refine lv_aload_n hC.1 hC.2.1 d_cr_isBarredInWind_0 rfl (lv_at hl 0 rfl) ?_
  refine gf_cr_12 hC hw d_cr_isBarredInWind_1 ?_
  refine lv_aload_n hC.1 hC.2.1 d_cr_isBarredInWind_4 rfl (lv_at hl 0 rfl) ?_
  refine gf_cr_26 hC hw d_cr_isBarredInWind_5 ?_
  refine lv_iload_n hC.1 hC.2.1 d_cr_isBarredInWind_8 rfl (lv_at hl 1 rfl) ?_
  refine lv_iload_n hC.1 hC.2.1 d_cr_isBarredInWind_9 rfl (lv_at hl 2 rfl) ?_
  refine go_R (ca_V (As := [.int (iI (row)), .int (iI (i))]) (rest := [.ref (G.2.1 1)]) hC hw (c_ps_pieceOf l G S row i hI (by omega) (by omega)) (cv_cr_100 hC rfl rfl (Nat.le_of_ble_eq_true rfl) (Nat.le_of_ble_eq_true rfl)) (by decide) rfl rfl rfl hl.1 rfl (Nat.le_of_ble_eq_true rfl) d_cr_isBarredInWind_10 ⟨Nat.le_of_ble_eq_true rfl, Nat.le_of_ble_eq_true rfl⟩) ?_
  have r_1 := pOf_b hI row i
  refine lv_iconst (v := iI 2) hC.1 hC.2.1 d_cr_isBarredInWind_13 rfl ?_
  refine go_R (ca_V (As := [.int (iI (pOf S row i)), .int (iI (2))]) (rest := []) hC hw (c_pc_ruleOf l G S (pOf S row i) 2 hI (by omega) (by omega)) (cv_cr_248 hC rfl rfl (Nat.le_of_ble_eq_true rfl) (Nat.le_of_ble_eq_true rfl)) (by decide) rfl rfl rfl hl.1 rfl (Nat.le_of_ble_eq_true rfl) d_cr_isBarredInWind_14 ⟨Nat.le_of_ble_eq_true rfl, Nat.le_of_ble_eq_true rfl⟩) ?_
  have r_2 := rOf_b hI (pOf S row i) 2
  refine lv_istore_n (lv' := [(3, .int (iI (rOf S (pOf S row i) 2))), (0, .ref (G.2.1 0)), (1, .int (iI (row))), (2, .int (iI (i)))]) hC.1 hC.2.1 d_cr_isBarredInWind_17 rfl hl (by decide) rfl (fun ls hl => ?_)
  refine lv_aload_n hC.1 hC.2.1 d_cr_isBarredInWind_18 rfl (lv_at hl 1 rfl) ?_
  refine gf_cr_37 hC hw d_cr_isBarredInWind_19 ?_
  have b_3 := iv_0 hI 5
  refine ir_if_eq (tgt := 50) hC.1 hC.2.1 d_cr_isBarredInWind_22 (by decide) ⟨by omega, by omega⟩ (fun c_4 => ?_) (fun c_4 => ?_)
  · skip
    refine lv_iconst (v := iI 0) hC.1 hC.2.1 d_cr_isBarredInWind_50 rfl ?_
    exact rt_RZ hC hr hlk (by decide) (by first | rfl | (simp [bWd, bI, c_4]; done) | (simp [bWd, bI, c_4]; omega) | (simp [bWd, bI, c_4] <;> split <;> omega) | omega) d_cr_isBarredInWind_51
  · skip
    refine lv_aload_n hC.1 hC.2.1 d_cr_isBarredInWind_25 rfl (lv_at hl 1 rfl) ?_
    refine gf_cr_19 hC hw d_cr_isBarredInWind_26 ?_
    refine gf_cr_223 hC hw d_cr_isBarredInWind_29 ?_
    refine lv_aload_n hC.1 hC.2.1 d_cr_isBarredInWind_32 rfl (lv_at hl 1 rfl) ?_
    refine gf_cr_26 hC hw d_cr_isBarredInWind_33 ?_
    refine gf_cr_254 hC hw d_cr_isBarredInWind_36 ?_
    refine lv_iload_n hC.1 hC.2.1 d_cr_isBarredInWind_39 rfl (lv_at hl 2 rfl) ?_
    refine ld_18 hC hw (by omega) (by omega) d_cr_isBarredInWind_40 ?_
    have b_5 := iv_18 hI row.toNat
    refine ld_14 hC hw (by omega) (by omega) d_cr_isBarredInWind_41 ?_
    have b_6 := iv_14 hI ((S 18 row.toNat).toNat)
    refine lv_iload_n hC.1 hC.2.1 d_cr_isBarredInWind_42 rfl (lv_at hl 0 rfl) ?_
    refine ir_le (tgt := 50) hC.1 hC.2.1 d_cr_isBarredInWind_43 (by decide) ⟨by omega, by omega⟩ ⟨by omega, by omega⟩ (fun c_7 => ?_) (fun c_7 => ?_)
    · skip
      refine lv_iconst (v := iI 0) hC.1 hC.2.1 d_cr_isBarredInWind_50 rfl ?_
      exact rt_RZ hC hr hlk (by decide) (by first | rfl | (simp [bWd, bI, c_4, c_7]; done) | (simp [bWd, bI, c_4, c_7]; omega) | (simp [bWd, bI, c_4, c_7] <;> split <;> omega) | omega) d_cr_isBarredInWind_51
    · skip
      refine lv_iconst (v := iI 1) hC.1 hC.2.1 d_cr_isBarredInWind_46 rfl ?_
      refine lv_goto (tgt := 51) hC.1 hC.2.1 d_cr_isBarredInWind_47 (by decide) ?_
      exact rt_RZ hC hr hlk (by decide) (by first | rfl | (simp [bWd, bI, c_4, c_7]; done) | (simp [bWd, bI, c_4, c_7]; omega) | (simp [bWd, bI, c_4, c_7] <;> split <;> omega) | omega) d_cr_isBarredInWind_51
set_option maxHeartbeats 4000000 in
set_option maxRecDepth 100000 in
theorem c_pc_closedFor (l : Launch) (G : Gt) (S : St) (q : Int) (a : Int) (b : Int) (hI : Inv S) (hq : 0 ≤ q ∧ q < 12) (ha : 0 ≤ a ∧ a ≤ 1000000) (hb : 0 ≤ b ∧ b ≤ 1000000) : Met l y_pc_closedFor [.code y_pc_closedFor b_pc_closedFor 7 (some .int)] { frames := 1, cells := 0, slots := 0, locals := 23 } (va_Pc [.ref (G.2.1 1), .int (iI (q)), .int (iI (a)), .int (iI (b))] (fun U => wu G S U)) (qR (clF S q a b (S 11 q.toNat).toNat)) 0 0 (fun _ => False) := by
  refine mt_of (by decide +kernel) (Nat.le_of_ble_eq_true rfl) ?_
  intro p e s m below meth c ls hadm hC hr hlk hex hw hl
  have hC : CallFix p m c b_pc_closedFor 7 s _ tws "ChannelRules$Pieces" := hC
  have hl : lv_has ls 7 [(0, .ref (G.2.1 1)), (1, .int (iI (q))), (2, .int (iI (a))), (3, .int (iI (b)))] := hl
  have i11 := iv_11 hI q.toNat
  refine lv_iconst (v := iI 0) hC.1 hC.2.1 d_pc_closedFor_0 rfl ?_
  refine lv_istore (lv' := [(4, .int (iI (0))), (0, .ref (G.2.1 1)), (1, .int (iI (q))), (2, .int (iI (a))), (3, .int (iI (b)))]) hC.1 hC.2.1 d_pc_closedFor_1 hl (by decide) rfl (fun ls hl => ?_)
  refine lv_iconst (v := iI 0) hC.1 hC.2.1 d_pc_closedFor_3 rfl ?_
  refine lv_istore (lv' := [(5, .int (iI (0))), (4, .int (iI (0))), (0, .ref (G.2.1 1)), (1, .int (iI (q))), (2, .int (iI (a))), (3, .int (iI (b)))]) hC.1 hC.2.1 d_pc_closedFor_4 hl (by decide) rfl (fun ls hl => ?_)
  have loop_6 : ∀ (nn : Nat) (k : Nat) (x4 : Int) (x5 : Int), (S 11 q.toNat).toNat - k < nn → x4 = clF S q a b k → x5 = (k : Int) → (k : Int) ≤ S 11 q.toNat → ∀ (ls : Array Slot), lv_has ls 7 [(5, .int (iI (x5))), (4, .int (iI (x4))), (0, .ref (G.2.1 1)), (1, .int (iI (q))), (2, .int (iI (a))), (3, .int (iI (b)))] → W p l e { frames := 1, cells := 0, slots := 0, locals := 23 } s m ([.ref (G.2.1 1), .int (iI (q)), .int (iI (a)), .int (iI (b))] : List Value).toArray below meth c s.heap [] 0 0 (MQ below (qR (clF S q a b (S 11 q.toNat).toNat)) ([.ref (G.2.1 1), .int (iI (q)), .int (iI (a)), .int (iI (b))] : List Value).toArray s 0 0 (fun _ => False)) (F0 m 6 ls []) := by
    intro nn
    induction nn with
    | zero => intros; omega
    | succ nn ih_6 =>
      intro k x4 x5 hms_6 hx4 hx5 hv0 ls hl
      have bk := clF_b hI q a b k
      refine lv_iload hC.1 hC.2.1 d_pc_closedFor_6 (lv_at hl 0 rfl) ?_
      refine lv_aload_n hC.1 hC.2.1 d_pc_closedFor_8 rfl (lv_at hl 2 rfl) ?_
      refine gf_pc_31 hC hw d_pc_closedFor_9 ?_
      refine lv_iload_n hC.1 hC.2.1 d_pc_closedFor_12 rfl (lv_at hl 3 rfl) ?_
      refine ld_11 hC hw (by omega) (by omega) d_pc_closedFor_13 ?_
      have b_1 := iv_11 hI q.toNat
      refine ir_ge (tgt := 69) hC.1 hC.2.1 d_pc_closedFor_14 (by decide) ⟨by omega, by omega⟩ ⟨by omega, by omega⟩ (fun c_2 => ?_) (fun c_2 => ?_)
      · skip
        refine lv_iload hC.1 hC.2.1 d_pc_closedFor_69 (lv_at hl 1 rfl) ?_
        exact rt_R hC hr hlk (by rw [hx4, show (S 11 q.toNat).toNat = k by omega]) d_pc_closedFor_71
      · skip
        refine lv_iload_n hC.1 hC.2.1 d_pc_closedFor_17 rfl (lv_at hl 3 rfl) ?_
        refine lv_iconst (v := iI 4) hC.1 hC.2.1 d_pc_closedFor_18 rfl ?_
        refine ir_mul hC.1 hC.2.1 d_pc_closedFor_19 ?_
        refine lv_iload hC.1 hC.2.1 d_pc_closedFor_20 (lv_at hl 0 rfl) ?_
        refine ir_add hC.1 hC.2.1 d_pc_closedFor_22 ?_
        refine lv_istore (lv' := [(6, .int (iI ((q * 4) + x5))), (5, .int (iI (x5))), (4, .int (iI (x4))), (0, .ref (G.2.1 1)), (1, .int (iI (q))), (2, .int (iI (a))), (3, .int (iI (b)))]) hC.1 hC.2.1 d_pc_closedFor_23 hl (by decide) rfl (fun ls hl => ?_)
        refine lv_iload_n hC.1 hC.2.1 d_pc_closedFor_25 rfl (lv_at hl 5 rfl) ?_
        refine lv_iload_n hC.1 hC.2.1 d_pc_closedFor_26 rfl (lv_at hl 6 rfl) ?_
        refine lv_aload_n hC.1 hC.2.1 d_pc_closedFor_27 rfl (lv_at hl 3 rfl) ?_
        refine gf_pc_34 hC hw d_pc_closedFor_28 ?_
        refine lv_iload hC.1 hC.2.1 d_pc_closedFor_31 (lv_at hl 0 rfl) ?_
        refine ld_12 hC hw (by omega) (by omega) d_pc_closedFor_33 ?_
        have b_3 := iv_12 hI (((q * 4) + x5).toNat)
        refine lv_aload_n hC.1 hC.2.1 d_pc_closedFor_34 rfl (lv_at hl 3 rfl) ?_
        refine gf_pc_37 hC hw d_pc_closedFor_35 ?_
        refine lv_iload hC.1 hC.2.1 d_pc_closedFor_38 (lv_at hl 0 rfl) ?_
        refine ld_13 hC hw (by omega) (by omega) d_pc_closedFor_40 ?_
        have b_4 := iv_13 hI (((q * 4) + x5).toNat)
        refine go_R (ca_N (As := [.int (iI (a)), .int (iI (b)), .int (iI (S 12 ((q * 4) + x5).toNat)), .int (iI (S 13 ((q * 4) + x5).toNat))]) (rest := []) hC hw (c_cr_shareMinute l G S a b (S 12 ((q * 4) + x5).toNat) (S 13 ((q * 4) + x5).toNat) (by omega) (by omega) (by omega) (by omega)) (cv_pc_48 hC rfl rfl (Nat.le_of_ble_eq_true rfl) (Nat.le_of_ble_eq_true rfl)) rfl hl.1 rfl (Nat.le_of_ble_eq_true rfl) d_pc_closedFor_41 ⟨Nat.le_of_ble_eq_true rfl, Nat.le_of_ble_eq_true rfl⟩) ?_
        refine ir_beq (tgt := 63) hC d_pc_closedFor_44 (by decide) (fun c_5 => ?_) (fun c_5 => ?_)
        · skip
          refine lv_iinc (v := iI (x5 + 1)) (lv' := [(5, .int (iI (x5 + 1))), (6, .int (iI ((q * 4) + x5))), (4, .int (iI (x4))), (0, .ref (G.2.1 1)), (1, .int (iI (q))), (2, .int (iI (a))), (3, .int (iI (b)))]) hC.1 hC.2.1 d_pc_closedFor_63 hl (k := 1) rfl (iI_add _ _) (by decide) rfl (fun ls hl => ?_)
          refine lv_goto (tgt := 6) hC.1 hC.2.1 d_pc_closedFor_66 (by decide) ?_
          exact ih_6 (k + 1) _ _ (by omega) (by have g := clF_s S q a b k; simp only [hx5] at *; simp [g, *]) (by first | rfl | omega) (by omega) _ (lv_sub hl [0, 2, 3, 4, 5, 6] rfl)
        · skip
          refine lv_iload hC.1 hC.2.1 d_pc_closedFor_47 (lv_at hl 2 rfl) ?_
          refine lv_aload_n hC.1 hC.2.1 d_pc_closedFor_49 rfl (lv_at hl 3 rfl) ?_
          refine gf_pc_37 hC hw d_pc_closedFor_50 ?_
          refine lv_iload hC.1 hC.2.1 d_pc_closedFor_53 (lv_at hl 0 rfl) ?_
          refine ld_13 hC hw (by omega) (by omega) d_pc_closedFor_55 ?_
          have b_6 := iv_13 hI (((q * 4) + x5).toNat)
          refine lv_iload_n hC.1 hC.2.1 d_pc_closedFor_56 rfl (lv_at hl 5 rfl) ?_
          refine ir_sub hC.1 hC.2.1 d_pc_closedFor_57 ?_
          refine ir_max hC tw_450 tw_451 tw_11 tw_452 hl.1 (Nat.le_of_ble_eq_true rfl) (Nat.le_of_ble_eq_true rfl) (Nat.zero_le _) (Nat.zero_le _) ⟨by omega, by omega⟩ ⟨by omega, by omega⟩ d_pc_closedFor_58 ?_
          refine lv_istore (lv' := [(4, .int (iI (max x4 ((S 13 ((q * 4) + x5).toNat) - a)))), (6, .int (iI ((q * 4) + x5))), (5, .int (iI (x5))), (0, .ref (G.2.1 1)), (1, .int (iI (q))), (2, .int (iI (a))), (3, .int (iI (b)))]) hC.1 hC.2.1 d_pc_closedFor_61 hl (by decide) rfl (fun ls hl => ?_)
          refine lv_iinc (v := iI (x5 + 1)) (lv' := [(5, .int (iI (x5 + 1))), (4, .int (iI (max x4 ((S 13 ((q * 4) + x5).toNat) - a)))), (6, .int (iI ((q * 4) + x5))), (0, .ref (G.2.1 1)), (1, .int (iI (q))), (2, .int (iI (a))), (3, .int (iI (b)))]) hC.1 hC.2.1 d_pc_closedFor_63 hl (k := 2) rfl (iI_add _ _) (by decide) rfl (fun ls hl => ?_)
          refine lv_goto (tgt := 6) hC.1 hC.2.1 d_pc_closedFor_66 (by decide) ?_
          exact ih_6 (k + 1) _ _ (by omega) (by have g := clF_s S q a b k; simp only [hx5] at *; simp [g, *]) (by first | rfl | omega) (by omega) _ (lv_sub hl [0, 1, 3, 4, 5, 6] rfl)
  exact loop_6 _ 0 _ _ (Nat.lt_succ_self _) (by first | rfl | omega) (by first | rfl | omega) (by omega) _ (lv_sub hl [0, 1, 2, 3, 4, 5] rfl)
set_option maxHeartbeats 4000000 in
set_option maxRecDepth 100000 in
theorem c_cr_barByPiece (l : Launch) (G : Gt) (S : St) (row : Int) (i : Int) (hI : Inv S) (hrow : 0 ≤ row ∧ row ≤ 30) (hi : 0 ≤ i ∧ i < 7) : Met l y_cr_barByPiece [.code y_cr_barByPiece b_cr_barByPiece 6 (some .int)] { frames := 2, cells := 0, slots := 0, locals := 49 } (va_Pc [.ref (G.2.1 0), .int (iI (row)), .int (iI (i))] (fun U => wu G S U)) (qR (bPc S row i)) 0 0 (fun _ => False) := by
  refine mt_of (by decide +kernel) (Nat.le_of_ble_eq_true rfl) ?_
  intro p e s m below meth c ls hadm hC hr hlk hex hw hl
  have hC : CallFix p m c b_cr_barByPiece 6 s _ tws "ChannelRules" := hC
  have hl : lv_has ls 6 [(0, .ref (G.2.1 0)), (1, .int (iI (row))), (2, .int (iI (i)))] := hl
  refine lv_aload_n hC.1 hC.2.1 d_cr_barByPiece_0 rfl (lv_at hl 0 rfl) ?_
  refine lv_iload_n hC.1 hC.2.1 d_cr_barByPiece_1 rfl (lv_at hl 1 rfl) ?_
  refine lv_iload_n hC.1 hC.2.1 d_cr_barByPiece_2 rfl (lv_at hl 2 rfl) ?_
  refine go_R (ca_V (As := [.int (iI (row)), .int (iI (i))]) (rest := []) hC hw (c_cr_isAgainstOneWay l G S row i hI (by omega) (by omega)) (cv_cr_236 hC rfl rfl (Nat.le_of_ble_eq_true rfl) (Nat.le_of_ble_eq_true rfl)) (by decide) rfl rfl rfl hl.1 rfl (Nat.le_of_ble_eq_true rfl) d_cr_barByPiece_3 ⟨Nat.le_of_ble_eq_true rfl, Nat.le_of_ble_eq_true rfl⟩) ?_
  refine ir_beq (tgt := 11) hC d_cr_barByPiece_6 (by decide) (fun c_1 => ?_) (fun c_1 => ?_)
  · skip
    refine lv_aload_n hC.1 hC.2.1 d_cr_barByPiece_11 rfl (lv_at hl 0 rfl) ?_
    refine lv_iload_n hC.1 hC.2.1 d_cr_barByPiece_12 rfl (lv_at hl 1 rfl) ?_
    refine lv_iload_n hC.1 hC.2.1 d_cr_barByPiece_13 rfl (lv_at hl 2 rfl) ?_
    refine go_R (ca_V (As := [.int (iI (row)), .int (iI (i))]) (rest := []) hC hw (c_cr_isBarredAtNight l G S row i hI (by omega) (by omega)) (cv_cr_239 hC rfl rfl (Nat.le_of_ble_eq_true rfl) (Nat.le_of_ble_eq_true rfl)) (by decide) rfl rfl rfl hl.1 rfl (Nat.le_of_ble_eq_true rfl) d_cr_barByPiece_14 ⟨Nat.le_of_ble_eq_true rfl, Nat.le_of_ble_eq_true rfl⟩) ?_
    refine ir_beq (tgt := 22) hC d_cr_barByPiece_17 (by decide) (fun c_2 => ?_) (fun c_2 => ?_)
    · skip
      refine lv_aload_n hC.1 hC.2.1 d_cr_barByPiece_22 rfl (lv_at hl 0 rfl) ?_
      refine lv_iload_n hC.1 hC.2.1 d_cr_barByPiece_23 rfl (lv_at hl 1 rfl) ?_
      refine lv_iload_n hC.1 hC.2.1 d_cr_barByPiece_24 rfl (lv_at hl 2 rfl) ?_
      refine go_R (ca_V (As := [.int (iI (row)), .int (iI (i))]) (rest := []) hC hw (c_cr_isBarredInWind l G S row i hI (by omega) (by omega)) (cv_cr_242 hC rfl rfl (Nat.le_of_ble_eq_true rfl) (Nat.le_of_ble_eq_true rfl)) (by decide) rfl rfl rfl hl.1 rfl (Nat.le_of_ble_eq_true rfl) d_cr_barByPiece_25 ⟨Nat.le_of_ble_eq_true rfl, Nat.le_of_ble_eq_true rfl⟩) ?_
      refine ir_beq (tgt := 33) hC d_cr_barByPiece_28 (by decide) (fun c_3 => ?_) (fun c_3 => ?_)
      · skip
        refine lv_aload_n hC.1 hC.2.1 d_cr_barByPiece_33 rfl (lv_at hl 0 rfl) ?_
        refine gf_cr_26 hC hw d_cr_barByPiece_34 ?_
        refine lv_iload_n hC.1 hC.2.1 d_cr_barByPiece_37 rfl (lv_at hl 1 rfl) ?_
        refine lv_iload_n hC.1 hC.2.1 d_cr_barByPiece_38 rfl (lv_at hl 2 rfl) ?_
        refine go_R (ca_V (As := [.int (iI (row)), .int (iI (i))]) (rest := []) hC hw (c_ps_entersAt l G S row i hI (by omega) (by omega)) (cv_cr_169 hC rfl rfl (Nat.le_of_ble_eq_true rfl) (Nat.le_of_ble_eq_true rfl)) (by decide) rfl rfl rfl hl.1 rfl (Nat.le_of_ble_eq_true rfl) d_cr_barByPiece_39 ⟨Nat.le_of_ble_eq_true rfl, Nat.le_of_ble_eq_true rfl⟩) ?_
        have r_4 := enA_b hI row i
        refine lv_istore_n (lv' := [(3, .int (iI (enA S row i))), (0, .ref (G.2.1 0)), (1, .int (iI (row))), (2, .int (iI (i)))]) hC.1 hC.2.1 d_cr_barByPiece_42 rfl hl (by decide) rfl (fun ls hl => ?_)
        refine lv_aload_n hC.1 hC.2.1 d_cr_barByPiece_43 rfl (lv_at hl 1 rfl) ?_
        refine gf_cr_26 hC hw d_cr_barByPiece_44 ?_
        refine lv_iload_n hC.1 hC.2.1 d_cr_barByPiece_47 rfl (lv_at hl 2 rfl) ?_
        refine lv_iload_n hC.1 hC.2.1 d_cr_barByPiece_48 rfl (lv_at hl 3 rfl) ?_
        refine go_R (ca_V (As := [.int (iI (row)), .int (iI (i))]) (rest := []) hC hw (c_ps_leavesAt l G S row i hI (by omega) (by omega)) (cv_cr_172 hC rfl rfl (Nat.le_of_ble_eq_true rfl) (Nat.le_of_ble_eq_true rfl)) (by decide) rfl rfl rfl hl.1 rfl (Nat.le_of_ble_eq_true rfl) d_cr_barByPiece_49 ⟨Nat.le_of_ble_eq_true rfl, Nat.le_of_ble_eq_true rfl⟩) ?_
        have r_5 := lvA_b hI row i
        refine lv_istore (lv' := [(4, .int (iI (lvA S row i))), (3, .int (iI (enA S row i))), (0, .ref (G.2.1 0)), (1, .int (iI (row))), (2, .int (iI (i)))]) hC.1 hC.2.1 d_cr_barByPiece_52 hl (by decide) rfl (fun ls hl => ?_)
        refine lv_aload_n hC.1 hC.2.1 d_cr_barByPiece_54 rfl (lv_at hl 2 rfl) ?_
        refine gf_cr_12 hC hw d_cr_barByPiece_55 ?_
        refine lv_aload_n hC.1 hC.2.1 d_cr_barByPiece_58 rfl (lv_at hl 2 rfl) ?_
        refine gf_cr_26 hC hw d_cr_barByPiece_59 ?_
        refine lv_iload_n hC.1 hC.2.1 d_cr_barByPiece_62 rfl (lv_at hl 3 rfl) ?_
        refine lv_iload_n hC.1 hC.2.1 d_cr_barByPiece_63 rfl (lv_at hl 4 rfl) ?_
        refine go_R (ca_V (As := [.int (iI (row)), .int (iI (i))]) (rest := [.ref (G.2.1 1)]) hC hw (c_ps_pieceOf l G S row i hI (by omega) (by omega)) (cv_cr_100 hC rfl rfl (Nat.le_of_ble_eq_true rfl) (Nat.le_of_ble_eq_true rfl)) (by decide) rfl rfl rfl hl.1 rfl (Nat.le_of_ble_eq_true rfl) d_cr_barByPiece_64 ⟨Nat.le_of_ble_eq_true rfl, Nat.le_of_ble_eq_true rfl⟩) ?_
        have r_6 := pOf_b hI row i
        refine lv_iload_n hC.1 hC.2.1 d_cr_barByPiece_67 rfl (lv_at hl 1 rfl) ?_
        refine lv_iload hC.1 hC.2.1 d_cr_barByPiece_68 (lv_at hl 0 rfl) ?_
        refine go_R (ca_V (As := [.int (iI (pOf S row i)), .int (iI (enA S row i)), .int (iI (lvA S row i))]) (rest := []) hC hw (c_pc_closedFor l G S (pOf S row i) (enA S row i) (lvA S row i) hI (by omega) (by omega) (by omega)) (cv_cr_245 hC rfl rfl (Nat.le_of_ble_eq_true rfl) (Nat.le_of_ble_eq_true rfl)) (by decide) rfl rfl rfl hl.1 rfl (Nat.le_of_ble_eq_true rfl) d_cr_barByPiece_70 ⟨Nat.le_of_ble_eq_true rfl, Nat.le_of_ble_eq_true rfl⟩) ?_
        have r_7 := clF_b hI (pOf S row i) (enA S row i) (lvA S row i) (S 11 (pOf S row i).toNat).toNat
        refine lv_istore (lv' := [(5, .int (iI (clF S (pOf S row i) (enA S row i) (lvA S row i) (S 11 (pOf S row i).toNat).toNat))), (4, .int (iI (lvA S row i))), (3, .int (iI (enA S row i))), (0, .ref (G.2.1 0)), (1, .int (iI (row))), (2, .int (iI (i)))]) hC.1 hC.2.1 d_cr_barByPiece_73 hl (by decide) rfl (fun ls hl => ?_)
        refine lv_iload hC.1 hC.2.1 d_cr_barByPiece_75 (lv_at hl 0 rfl) ?_
        refine ir_if_le (tgt := 84) hC.1 hC.2.1 d_cr_barByPiece_77 (by decide) ⟨by omega, by omega⟩ (fun c_8 => ?_) (fun c_8 => ?_)
        · skip
          refine lv_iconst (v := iI 0) hC.1 hC.2.1 d_cr_barByPiece_84 rfl ?_
          exact rt_R hC hr hlk (by first | rfl | (simp [bPc, c_1, c_2, c_3, c_8]; done) | (simp [bPc, c_1, c_2, c_3, c_8]; omega) | (simp [bPc, c_1, c_2, c_3, c_8] <;> split <;> omega) | omega) d_cr_barByPiece_85
        · skip
          refine lv_iconst (v := iI 4) hC.1 hC.2.1 d_cr_barByPiece_80 rfl ?_
          refine lv_goto (tgt := 85) hC.1 hC.2.1 d_cr_barByPiece_81 (by decide) ?_
          exact rt_R hC hr hlk (by first | rfl | (simp [bPc, c_1, c_2, c_3, c_8]; done) | (simp [bPc, c_1, c_2, c_3, c_8]; omega) | (simp [bPc, c_1, c_2, c_3, c_8] <;> split <;> omega) | omega) d_cr_barByPiece_85
      · skip
        refine lv_iconst (v := iI 3) hC.1 hC.2.1 d_cr_barByPiece_31 rfl ?_
        exact rt_R hC hr hlk (by first | rfl | (simp [bPc, c_1, c_2, c_3]; done) | (simp [bPc, c_1, c_2, c_3]; omega) | (simp [bPc, c_1, c_2, c_3] <;> split <;> omega) | omega) d_cr_barByPiece_32
    · skip
      refine lv_iconst (v := iI 2) hC.1 hC.2.1 d_cr_barByPiece_20 rfl ?_
      exact rt_R hC hr hlk (by first | rfl | (simp [bPc, c_1, c_2]; done) | (simp [bPc, c_1, c_2]; omega) | (simp [bPc, c_1, c_2] <;> split <;> omega) | omega) d_cr_barByPiece_21
  · skip
    refine lv_iconst (v := iI 1) hC.1 hC.2.1 d_cr_barByPiece_9 rfl ?_
    exact rt_R hC hr hlk (by first | rfl | (simp [bPc, c_1]; done) | (simp [bPc, c_1]; omega) | (simp [bPc, c_1] <;> split <;> omega) | omega) d_cr_barByPiece_10
set_option maxHeartbeats 4000000 in
set_option maxRecDepth 100000 in
theorem c_cr_conflictWith (l : Launch) (G : Gt) (S : St) (k : Int) (row : Int) (i : Int) (hI : Inv S) (hk : 0 ≤ k ∧ k ≤ 30) (hrow : 0 ≤ row ∧ row ≤ 30) (hi : 0 ≤ i ∧ i < 7) : Met l y_cr_conflictWith [.code y_cr_conflictWith b_cr_conflictWith 10 (some .int)] { frames := 2, cells := 0, slots := 0, locals := 50 } (va_Pc [.ref (G.2.1 0), .int (iI (k)), .int (iI (row)), .int (iI (i))] (fun U => wu G S U)) (qR (cfw S k row i)) 0 0 (fun _ => False) := by
  refine mt_of (by decide +kernel) (Nat.le_of_ble_eq_true rfl) ?_
  intro p e s m below meth c ls hadm hC hr hlk hex hw hl
  have hC : CallFix p m c b_cr_conflictWith 10 s _ tws "ChannelRules" := hC
  have hl : lv_has ls 10 [(0, .ref (G.2.1 0)), (1, .int (iI (k))), (2, .int (iI (row))), (3, .int (iI (i)))] := hl
  refine lv_aload_n hC.1 hC.2.1 d_cr_conflictWith_0 rfl (lv_at hl 0 rfl) ?_
  refine gf_cr_26 hC hw d_cr_conflictWith_1 ?_
  refine lv_iload_n hC.1 hC.2.1 d_cr_conflictWith_4 rfl (lv_at hl 2 rfl) ?_
  refine lv_iload_n hC.1 hC.2.1 d_cr_conflictWith_5 rfl (lv_at hl 3 rfl) ?_
  refine go_R (ca_V (As := [.int (iI (row)), .int (iI (i))]) (rest := []) hC hw (c_ps_pieceOf l G S row i hI (by omega) (by omega)) (cv_cr_100 hC rfl rfl (Nat.le_of_ble_eq_true rfl) (Nat.le_of_ble_eq_true rfl)) (by decide) rfl rfl rfl hl.1 rfl (Nat.le_of_ble_eq_true rfl) d_cr_conflictWith_6 ⟨Nat.le_of_ble_eq_true rfl, Nat.le_of_ble_eq_true rfl⟩) ?_
  have r_1 := pOf_b hI row i
  refine lv_istore (lv' := [(4, .int (iI (pOf S row i))), (0, .ref (G.2.1 0)), (1, .int (iI (k))), (2, .int (iI (row))), (3, .int (iI (i)))]) hC.1 hC.2.1 d_cr_conflictWith_9 hl (by decide) rfl (fun ls hl => ?_)
  refine lv_aload_n hC.1 hC.2.1 d_cr_conflictWith_11 rfl (lv_at hl 1 rfl) ?_
  refine gf_cr_26 hC hw d_cr_conflictWith_12 ?_
  refine lv_iload_n hC.1 hC.2.1 d_cr_conflictWith_15 rfl (lv_at hl 2 rfl) ?_
  refine lv_iload hC.1 hC.2.1 d_cr_conflictWith_16 (lv_at hl 0 rfl) ?_
  refine go_R (ca_V (As := [.int (iI (k)), .int (iI (pOf S row i))]) (rest := []) hC hw (c_ps_stayOn l G S k (pOf S row i) hI (by omega) (by omega)) (cv_cr_260 hC rfl rfl (Nat.le_of_ble_eq_true rfl) (Nat.le_of_ble_eq_true rfl)) (by decide) rfl rfl rfl hl.1 rfl (Nat.le_of_ble_eq_true rfl) d_cr_conflictWith_18 ⟨Nat.le_of_ble_eq_true rfl, Nat.le_of_ble_eq_true rfl⟩) ?_
  have r_2 := stO_b hI k (pOf S row i)
  refine lv_istore (lv' := [(5, .int (iI (stO S k (pOf S row i)))), (4, .int (iI (pOf S row i))), (0, .ref (G.2.1 0)), (1, .int (iI (k))), (2, .int (iI (row))), (3, .int (iI (i)))]) hC.1 hC.2.1 d_cr_conflictWith_21 hl (by decide) rfl (fun ls hl => ?_)
  refine lv_iload hC.1 hC.2.1 d_cr_conflictWith_23 (lv_at hl 0 rfl) ?_
  refine lv_iconst (v := iI (-1)) hC.1 hC.2.1 d_cr_conflictWith_25 rfl ?_
  refine ir_eq (tgt := 73) hC.1 hC.2.1 d_cr_conflictWith_26 (by decide) ⟨by omega, by omega⟩ (by decide) (fun c_3 => ?_) (fun c_3 => ?_)
  · skip
    refine lv_iconst (v := iI 0) hC.1 hC.2.1 d_cr_conflictWith_73 rfl ?_
    exact rt_R hC hr hlk (by first | rfl | (simp [cfw, c_3]; done) | (simp [cfw, c_3]; omega) | (simp [cfw, c_3] <;> split <;> omega) | omega) d_cr_conflictWith_74
  · skip
    refine lv_aload_n hC.1 hC.2.1 d_cr_conflictWith_29 rfl (lv_at hl 2 rfl) ?_
    refine gf_cr_26 hC hw d_cr_conflictWith_30 ?_
    refine lv_iload_n hC.1 hC.2.1 d_cr_conflictWith_33 rfl (lv_at hl 4 rfl) ?_
    refine lv_iload_n hC.1 hC.2.1 d_cr_conflictWith_34 rfl (lv_at hl 5 rfl) ?_
    refine go_R (ca_V (As := [.int (iI (row)), .int (iI (i))]) (rest := []) hC hw (c_ps_entersAt l G S row i hI (by omega) (by omega)) (cv_cr_169 hC rfl rfl (Nat.le_of_ble_eq_true rfl) (Nat.le_of_ble_eq_true rfl)) (by decide) rfl rfl rfl hl.1 rfl (Nat.le_of_ble_eq_true rfl) d_cr_conflictWith_35 ⟨Nat.le_of_ble_eq_true rfl, Nat.le_of_ble_eq_true rfl⟩) ?_
    have r_4 := enA_b hI row i
    refine lv_aload_n hC.1 hC.2.1 d_cr_conflictWith_38 rfl (lv_at hl 2 rfl) ?_
    refine gf_cr_26 hC hw d_cr_conflictWith_39 ?_
    refine lv_iload_n hC.1 hC.2.1 d_cr_conflictWith_42 rfl (lv_at hl 4 rfl) ?_
    refine lv_iload_n hC.1 hC.2.1 d_cr_conflictWith_43 rfl (lv_at hl 5 rfl) ?_
    refine go_R (ca_V (As := [.int (iI (row)), .int (iI (i))]) (rest := [.int (iI (enA S row i))]) hC hw (c_ps_leavesAt l G S row i hI (by omega) (by omega)) (cv_cr_172 hC rfl rfl (Nat.le_of_ble_eq_true rfl) (Nat.le_of_ble_eq_true rfl)) (by decide) rfl rfl rfl hl.1 rfl (Nat.le_of_ble_eq_true rfl) d_cr_conflictWith_44 ⟨Nat.le_of_ble_eq_true rfl, Nat.le_of_ble_eq_true rfl⟩) ?_
    have r_5 := lvA_b hI row i
    refine lv_aload_n hC.1 hC.2.1 d_cr_conflictWith_47 rfl (lv_at hl 2 rfl) ?_
    refine gf_cr_26 hC hw d_cr_conflictWith_48 ?_
    refine lv_iload_n hC.1 hC.2.1 d_cr_conflictWith_51 rfl (lv_at hl 3 rfl) ?_
    refine lv_iload hC.1 hC.2.1 d_cr_conflictWith_52 (lv_at hl 0 rfl) ?_
    refine go_R (ca_V (As := [.int (iI (k)), .int (iI (stO S k (pOf S row i)))]) (rest := [.int (iI (lvA S row i)), .int (iI (enA S row i))]) hC hw (c_ps_entersAt l G S k (stO S k (pOf S row i)) hI (by omega) (by omega)) (cv_cr_169 hC rfl rfl (Nat.le_of_ble_eq_true rfl) (Nat.le_of_ble_eq_true rfl)) (by decide) rfl rfl rfl hl.1 rfl (Nat.le_of_ble_eq_true rfl) d_cr_conflictWith_54 ⟨Nat.le_of_ble_eq_true rfl, Nat.le_of_ble_eq_true rfl⟩) ?_
    have r_6 := enA_b hI k (stO S k (pOf S row i))
    refine lv_aload_n hC.1 hC.2.1 d_cr_conflictWith_57 rfl (lv_at hl 2 rfl) ?_
    refine gf_cr_26 hC hw d_cr_conflictWith_58 ?_
    refine lv_iload_n hC.1 hC.2.1 d_cr_conflictWith_61 rfl (lv_at hl 3 rfl) ?_
    refine lv_iload hC.1 hC.2.1 d_cr_conflictWith_62 (lv_at hl 0 rfl) ?_
    refine go_R (ca_V (As := [.int (iI (k)), .int (iI (stO S k (pOf S row i)))]) (rest := [.int (iI (enA S k (stO S k (pOf S row i)))), .int (iI (lvA S row i)), .int (iI (enA S row i))]) hC hw (c_ps_leavesAt l G S k (stO S k (pOf S row i)) hI (by omega) (by omega)) (cv_cr_172 hC rfl rfl (Nat.le_of_ble_eq_true rfl) (Nat.le_of_ble_eq_true rfl)) (by decide) rfl rfl rfl hl.1 rfl (Nat.le_of_ble_eq_true rfl) d_cr_conflictWith_64 ⟨Nat.le_of_ble_eq_true rfl, Nat.le_of_ble_eq_true rfl⟩) ?_
    have r_7 := lvA_b hI k (stO S k (pOf S row i))
    refine go_R (ca_S (As := [.int (iI (enA S row i)), .int (iI (lvA S row i)), .int (iI (enA S k (stO S k (pOf S row i)))), .int (iI (lvA S k (stO S k (pOf S row i))))]) (rest := []) hC hw (c_cr_shareMinute l G S (enA S row i) (lvA S row i) (enA S k (stO S k (pOf S row i))) (lvA S k (stO S k (pOf S row i))) (by omega) (by omega) (by omega) (by omega)) (cv_cr_263 hC rfl rfl (Nat.le_of_ble_eq_true rfl) (Nat.le_of_ble_eq_true rfl)) rfl hl.1 rfl (Nat.le_of_ble_eq_true rfl) d_cr_conflictWith_67 ⟨Nat.le_of_ble_eq_true rfl, Nat.le_of_ble_eq_true rfl⟩) ?_
    refine ir_bne (tgt := 75) hC d_cr_conflictWith_70 (by decide) (fun c_8 => ?_) (fun c_8 => ?_)
    · skip
      refine lv_aload_n hC.1 hC.2.1 d_cr_conflictWith_75 rfl (lv_at hl 2 rfl) ?_
      refine gf_cr_26 hC hw d_cr_conflictWith_76 ?_
      refine gf_cr_254 hC hw d_cr_conflictWith_79 ?_
      refine lv_iload_n hC.1 hC.2.1 d_cr_conflictWith_82 rfl (lv_at hl 4 rfl) ?_
      refine ld_18 hC hw (by omega) (by omega) d_cr_conflictWith_83 ?_
      have b_9 := iv_18 hI row.toNat
      refine lv_istore (lv' := [(6, .int (iI (S 18 row.toNat))), (5, .int (iI (stO S k (pOf S row i)))), (4, .int (iI (pOf S row i))), (0, .ref (G.2.1 0)), (1, .int (iI (k))), (2, .int (iI (row))), (3, .int (iI (i)))]) hC.1 hC.2.1 d_cr_conflictWith_84 hl (by decide) rfl (fun ls hl => ?_)
      refine lv_aload_n hC.1 hC.2.1 d_cr_conflictWith_86 rfl (lv_at hl 3 rfl) ?_
      refine gf_cr_26 hC hw d_cr_conflictWith_87 ?_
      refine gf_cr_254 hC hw d_cr_conflictWith_90 ?_
      refine lv_iload_n hC.1 hC.2.1 d_cr_conflictWith_93 rfl (lv_at hl 4 rfl) ?_
      refine ld_18 hC hw (by omega) (by omega) d_cr_conflictWith_94 ?_
      have b_10 := iv_18 hI k.toNat
      refine lv_istore (lv' := [(7, .int (iI (S 18 k.toNat))), (6, .int (iI (S 18 row.toNat))), (5, .int (iI (stO S k (pOf S row i)))), (4, .int (iI (pOf S row i))), (0, .ref (G.2.1 0)), (1, .int (iI (k))), (2, .int (iI (row))), (3, .int (iI (i)))]) hC.1 hC.2.1 d_cr_conflictWith_95 hl (by decide) rfl (fun ls hl => ?_)
      refine lv_aload_n hC.1 hC.2.1 d_cr_conflictWith_97 rfl (lv_at hl 4 rfl) ?_
      refine gf_cr_19 hC hw d_cr_conflictWith_98 ?_
      refine gf_cr_251 hC hw d_cr_conflictWith_101 ?_
      refine lv_iload hC.1 hC.2.1 d_cr_conflictWith_104 (lv_at hl 1 rfl) ?_
      refine ld_16 hC hw (by omega) (by omega) d_cr_conflictWith_106 ?_
      have b_11 := iv_16 hI ((S 18 row.toNat).toNat)
      refine lv_iconst (v := iI 2) hC.1 hC.2.1 d_cr_conflictWith_107 rfl ?_
      refine ir_eq (tgt := 125) hC.1 hC.2.1 d_cr_conflictWith_108 (by decide) ⟨by omega, by omega⟩ (by decide) (fun c_12 => ?_) (fun c_12 => ?_)
      · skip
        refine lv_iconst (v := iI 5) hC.1 hC.2.1 d_cr_conflictWith_125 rfl ?_
        exact rt_R hC hr hlk (by first | rfl | (simp [cfw, c_3, c_8, c_12]; done) | (simp [cfw, c_3, c_8, c_12]; omega) | (simp [cfw, c_3, c_8, c_12] <;> split <;> omega) | omega) d_cr_conflictWith_126
      · skip
        refine lv_aload_n hC.1 hC.2.1 d_cr_conflictWith_111 rfl (lv_at hl 4 rfl) ?_
        refine gf_cr_19 hC hw d_cr_conflictWith_112 ?_
        refine gf_cr_251 hC hw d_cr_conflictWith_115 ?_
        refine lv_iload hC.1 hC.2.1 d_cr_conflictWith_118 (lv_at hl 0 rfl) ?_
        refine ld_16 hC hw (by omega) (by omega) d_cr_conflictWith_120 ?_
        have b_13 := iv_16 hI ((S 18 k.toNat).toNat)
        refine lv_iconst (v := iI 2) hC.1 hC.2.1 d_cr_conflictWith_121 rfl ?_
        refine ir_ne (tgt := 127) hC.1 hC.2.1 d_cr_conflictWith_122 (by decide) ⟨by omega, by omega⟩ (by decide) (fun c_14 => ?_) (fun c_14 => ?_)
        · skip
          refine lv_aload_n hC.1 hC.2.1 d_cr_conflictWith_127 rfl (lv_at hl 4 rfl) ?_
          refine gf_cr_19 hC hw d_cr_conflictWith_128 ?_
          refine gf_cr_223 hC hw d_cr_conflictWith_131 ?_
          refine lv_iload hC.1 hC.2.1 d_cr_conflictWith_134 (lv_at hl 1 rfl) ?_
          refine ld_14 hC hw (by omega) (by omega) d_cr_conflictWith_136 ?_
          have b_15 := iv_14 hI ((S 18 row.toNat).toNat)
          refine lv_aload_n hC.1 hC.2.1 d_cr_conflictWith_137 rfl (lv_at hl 4 rfl) ?_
          refine gf_cr_19 hC hw d_cr_conflictWith_138 ?_
          refine gf_cr_223 hC hw d_cr_conflictWith_141 ?_
          refine lv_iload hC.1 hC.2.1 d_cr_conflictWith_144 (lv_at hl 0 rfl) ?_
          refine ld_14 hC hw (by omega) (by omega) d_cr_conflictWith_146 ?_
          have b_16 := iv_14 hI ((S 18 k.toNat).toNat)
          refine ir_add hC.1 hC.2.1 d_cr_conflictWith_147 ?_
          refine lv_aload_n hC.1 hC.2.1 d_cr_conflictWith_148 rfl (lv_at hl 4 rfl) ?_
          refine gf_cr_12 hC hw d_cr_conflictWith_149 ?_
          refine gf_cr_220 hC hw d_cr_conflictWith_152 ?_
          refine lv_iload hC.1 hC.2.1 d_cr_conflictWith_155 (lv_at hl 3 rfl) ?_
          refine ld_9 hC hw (by omega) (by omega) d_cr_conflictWith_157 ?_
          have b_17 := iv_9 hI ((pOf S row i).toNat)
          refine ir_le (tgt := 165) hC.1 hC.2.1 d_cr_conflictWith_158 (by decide) ⟨by omega, by omega⟩ ⟨by omega, by omega⟩ (fun c_18 => ?_) (fun c_18 => ?_)
          · skip
            refine lv_iconst (v := iI 0) hC.1 hC.2.1 d_cr_conflictWith_165 rfl ?_
            refine lv_istore (lv' := [(8, .int (iI (0))), (7, .int (iI (S 18 k.toNat))), (6, .int (iI (S 18 row.toNat))), (5, .int (iI (stO S k (pOf S row i)))), (4, .int (iI (pOf S row i))), (0, .ref (G.2.1 0)), (1, .int (iI (k))), (2, .int (iI (row))), (3, .int (iI (i)))]) hC.1 hC.2.1 d_cr_conflictWith_166 hl (by decide) rfl (fun ls hl => ?_)
            refine lv_aload_n hC.1 hC.2.1 d_cr_conflictWith_168 rfl (lv_at hl 5 rfl) ?_
            refine gf_cr_26 hC hw d_cr_conflictWith_169 ?_
            refine lv_iload_n hC.1 hC.2.1 d_cr_conflictWith_172 rfl (lv_at hl 7 rfl) ?_
            refine lv_iload_n hC.1 hC.2.1 d_cr_conflictWith_173 rfl (lv_at hl 8 rfl) ?_
            refine go_R (ca_V (As := [.int (iI (row)), .int (iI (i))]) (rest := []) hC hw (c_ps_isForward l G S row i hI (by omega) (by omega)) (cv_cr_175 hC rfl rfl (Nat.le_of_ble_eq_true rfl) (Nat.le_of_ble_eq_true rfl)) (by decide) rfl rfl rfl hl.1 rfl (Nat.le_of_ble_eq_true rfl) d_cr_conflictWith_174 ⟨Nat.le_of_ble_eq_true rfl, Nat.le_of_ble_eq_true rfl⟩) ?_
            have r_19 := fOf_b hI row i
            refine lv_aload_n hC.1 hC.2.1 d_cr_conflictWith_177 rfl (lv_at hl 5 rfl) ?_
            refine gf_cr_26 hC hw d_cr_conflictWith_178 ?_
            refine lv_iload_n hC.1 hC.2.1 d_cr_conflictWith_181 rfl (lv_at hl 6 rfl) ?_
            refine lv_iload hC.1 hC.2.1 d_cr_conflictWith_182 (lv_at hl 3 rfl) ?_
            refine go_R (ca_V (As := [.int (iI (k)), .int (iI (stO S k (pOf S row i)))]) (rest := [.int (iI (fOf S row i))]) hC hw (c_ps_isForward l G S k (stO S k (pOf S row i)) hI (by omega) (by omega)) (cv_cr_175 hC rfl rfl (Nat.le_of_ble_eq_true rfl) (Nat.le_of_ble_eq_true rfl)) (by decide) rfl rfl rfl hl.1 rfl (Nat.le_of_ble_eq_true rfl) d_cr_conflictWith_184 ⟨Nat.le_of_ble_eq_true rfl, Nat.le_of_ble_eq_true rfl⟩) ?_
            have r_20 := fOf_b hI k (stO S k (pOf S row i))
            refine ir_eq (tgt := 228) hC.1 hC.2.1 d_cr_conflictWith_187 (by decide) ⟨by omega, by omega⟩ ⟨by omega, by omega⟩ (fun c_21 => ?_) (fun c_21 => ?_)
            · skip
              refine lv_aload_n hC.1 hC.2.1 d_cr_conflictWith_228 rfl (lv_at hl 5 rfl) ?_
              refine gf_cr_12 hC hw d_cr_conflictWith_229 ?_
              refine lv_iload hC.1 hC.2.1 d_cr_conflictWith_232 (lv_at hl 4 rfl) ?_
              refine lv_iconst (v := iI 4) hC.1 hC.2.1 d_cr_conflictWith_234 rfl ?_
              refine go_R (ca_V (As := [.int (iI (pOf S row i)), .int (iI (4))]) (rest := []) hC hw (c_pc_ruleOf l G S (pOf S row i) 4 hI (by omega) (by omega)) (cv_cr_248 hC rfl rfl (Nat.le_of_ble_eq_true rfl) (Nat.le_of_ble_eq_true rfl)) (by decide) rfl rfl rfl hl.1 rfl (Nat.le_of_ble_eq_true rfl) d_cr_conflictWith_235 ⟨Nat.le_of_ble_eq_true rfl, Nat.le_of_ble_eq_true rfl⟩) ?_
              have r_22 := rOf_b hI (pOf S row i) 4
              refine lv_iconst (v := iI 1) hC.1 hC.2.1 d_cr_conflictWith_238 rfl ?_
              refine ir_ne (tgt := 246) hC.1 hC.2.1 d_cr_conflictWith_239 (by decide) ⟨by omega, by omega⟩ (by decide) (fun c_23 => ?_) (fun c_23 => ?_)
              · skip
                refine lv_iconst (v := iI 0) hC.1 hC.2.1 d_cr_conflictWith_246 rfl ?_
                refine lv_istore (lv' := [(9, .int (iI (0))), (8, .int (iI (0))), (7, .int (iI (S 18 k.toNat))), (6, .int (iI (S 18 row.toNat))), (5, .int (iI (stO S k (pOf S row i)))), (4, .int (iI (pOf S row i))), (0, .ref (G.2.1 0)), (1, .int (iI (k))), (2, .int (iI (row))), (3, .int (iI (i)))]) hC.1 hC.2.1 d_cr_conflictWith_247 hl (by decide) rfl (fun ls hl => ?_)
                refine lv_aload_n hC.1 hC.2.1 d_cr_conflictWith_249 rfl (lv_at hl 6 rfl) ?_
                refine gf_cr_26 hC hw d_cr_conflictWith_250 ?_
                refine lv_iload_n hC.1 hC.2.1 d_cr_conflictWith_253 rfl (lv_at hl 8 rfl) ?_
                refine lv_iload_n hC.1 hC.2.1 d_cr_conflictWith_254 rfl (lv_at hl 9 rfl) ?_
                refine lv_iload_n hC.1 hC.2.1 d_cr_conflictWith_255 rfl (lv_at hl 7 rfl) ?_
                refine lv_iload hC.1 hC.2.1 d_cr_conflictWith_256 (lv_at hl 4 rfl) ?_
                refine go_R (ca_V (As := [.int (iI (row)), .int (iI (i)), .int (iI (k)), .int (iI (stO S k (pOf S row i)))]) (rest := []) hC hw (c_ps_isOvertaking l G S row i k (stO S k (pOf S row i)) hI (by omega) (by omega) (by omega) (by omega)) (cv_cr_267 hC rfl rfl (Nat.le_of_ble_eq_true rfl) (Nat.le_of_ble_eq_true rfl)) (by decide) rfl rfl rfl hl.1 rfl (Nat.le_of_ble_eq_true rfl) d_cr_conflictWith_258 ⟨Nat.le_of_ble_eq_true rfl, Nat.le_of_ble_eq_true rfl⟩) ?_
                refine ir_beq (tgt := 279) hC d_cr_conflictWith_261 (by decide) (fun c_24 => ?_) (fun c_24 => ?_)
                · skip
                  refine lv_iconst (v := iI 0) hC.1 hC.2.1 d_cr_conflictWith_279 rfl ?_
                  exact rt_R hC hr hlk (by first | rfl | (simp [cfw, c_3, c_8, c_12, c_14, c_18, c_21, c_23, c_24]; done) | (simp [cfw, c_3, c_8, c_12, c_14, c_18, c_21, c_23, c_24]; omega) | (simp [cfw, c_3, c_8, c_12, c_14, c_18, c_21, c_23, c_24] <;> split <;> omega) | omega) d_cr_conflictWith_280
                · skip
                  refine lv_iload hC.1 hC.2.1 d_cr_conflictWith_264 (lv_at hl 0 rfl) ?_
                  refine ir_if_eq (tgt := 274) hC.1 hC.2.1 d_cr_conflictWith_266 (by decide) (by decide) (fun c_25 => ?_) (fun c_25 => ?_)
                  · skip
                    refine lv_bipush (v := iI 7) hC.1 hC.2.1 d_cr_conflictWith_274 (by decide +kernel) ?_
                    refine lv_goto (tgt := 280) hC.1 hC.2.1 d_cr_conflictWith_276 (by decide) ?_
                    exact rt_R hC hr hlk (by first | rfl | (simp [cfw, c_3, c_8, c_12, c_14, c_18, c_21, c_23, c_24]; done) | (simp [cfw, c_3, c_8, c_12, c_14, c_18, c_21, c_23, c_24]; omega) | (simp [cfw, c_3, c_8, c_12, c_14, c_18, c_21, c_23, c_24] <;> split <;> omega) | omega) d_cr_conflictWith_280
                  · exact absurd c_25 (by decide)
              · skip
                refine lv_iconst (v := iI 1) hC.1 hC.2.1 d_cr_conflictWith_242 rfl ?_
                refine lv_goto (tgt := 247) hC.1 hC.2.1 d_cr_conflictWith_243 (by decide) ?_
                refine lv_istore (lv' := [(9, .int (iI (1))), (8, .int (iI (0))), (7, .int (iI (S 18 k.toNat))), (6, .int (iI (S 18 row.toNat))), (5, .int (iI (stO S k (pOf S row i)))), (4, .int (iI (pOf S row i))), (0, .ref (G.2.1 0)), (1, .int (iI (k))), (2, .int (iI (row))), (3, .int (iI (i)))]) hC.1 hC.2.1 d_cr_conflictWith_247 hl (by decide) rfl (fun ls hl => ?_)
                refine lv_aload_n hC.1 hC.2.1 d_cr_conflictWith_249 rfl (lv_at hl 6 rfl) ?_
                refine gf_cr_26 hC hw d_cr_conflictWith_250 ?_
                refine lv_iload_n hC.1 hC.2.1 d_cr_conflictWith_253 rfl (lv_at hl 8 rfl) ?_
                refine lv_iload_n hC.1 hC.2.1 d_cr_conflictWith_254 rfl (lv_at hl 9 rfl) ?_
                refine lv_iload_n hC.1 hC.2.1 d_cr_conflictWith_255 rfl (lv_at hl 7 rfl) ?_
                refine lv_iload hC.1 hC.2.1 d_cr_conflictWith_256 (lv_at hl 4 rfl) ?_
                refine go_R (ca_V (As := [.int (iI (row)), .int (iI (i)), .int (iI (k)), .int (iI (stO S k (pOf S row i)))]) (rest := []) hC hw (c_ps_isOvertaking l G S row i k (stO S k (pOf S row i)) hI (by omega) (by omega) (by omega) (by omega)) (cv_cr_267 hC rfl rfl (Nat.le_of_ble_eq_true rfl) (Nat.le_of_ble_eq_true rfl)) (by decide) rfl rfl rfl hl.1 rfl (Nat.le_of_ble_eq_true rfl) d_cr_conflictWith_258 ⟨Nat.le_of_ble_eq_true rfl, Nat.le_of_ble_eq_true rfl⟩) ?_
                refine ir_beq (tgt := 279) hC d_cr_conflictWith_261 (by decide) (fun c_26 => ?_) (fun c_26 => ?_)
                · skip
                  refine lv_iconst (v := iI 0) hC.1 hC.2.1 d_cr_conflictWith_279 rfl ?_
                  exact rt_R hC hr hlk (by first | rfl | (simp [cfw, c_3, c_8, c_12, c_14, c_18, c_21, c_23, c_26]; done) | (simp [cfw, c_3, c_8, c_12, c_14, c_18, c_21, c_23, c_26]; omega) | (simp [cfw, c_3, c_8, c_12, c_14, c_18, c_21, c_23, c_26] <;> split <;> omega) | omega) d_cr_conflictWith_280
                · skip
                  refine lv_iload hC.1 hC.2.1 d_cr_conflictWith_264 (lv_at hl 0 rfl) ?_
                  refine ir_if_eq (tgt := 274) hC.1 hC.2.1 d_cr_conflictWith_266 (by decide) (by decide) (fun c_27 => ?_) (fun c_27 => ?_)
                  · exact absurd c_27 (by decide)
                  · skip
                    refine lv_iload hC.1 hC.2.1 d_cr_conflictWith_269 (lv_at hl 1 rfl) ?_
                    refine ir_if_eq (tgt := 279) hC.1 hC.2.1 d_cr_conflictWith_271 (by decide) (by decide) (fun c_28 => ?_) (fun c_28 => ?_)
                    · skip
                      refine lv_iconst (v := iI 0) hC.1 hC.2.1 d_cr_conflictWith_279 rfl ?_
                      exact rt_R hC hr hlk (by first | rfl | (simp [cfw, c_3, c_8, c_12, c_14, c_18, c_21, c_23, c_26]; done) | (simp [cfw, c_3, c_8, c_12, c_14, c_18, c_21, c_23, c_26]; omega) | (simp [cfw, c_3, c_8, c_12, c_14, c_18, c_21, c_23, c_26] <;> split <;> omega) | omega) d_cr_conflictWith_280
                    · exact absurd c_28 (by decide)
            · skip
              refine lv_aload_n hC.1 hC.2.1 d_cr_conflictWith_190 rfl (lv_at hl 5 rfl) ?_
              refine gf_cr_12 hC hw d_cr_conflictWith_191 ?_
              refine lv_iload hC.1 hC.2.1 d_cr_conflictWith_194 (lv_at hl 4 rfl) ?_
              refine lv_iconst (v := iI 3) hC.1 hC.2.1 d_cr_conflictWith_196 rfl ?_
              refine go_R (ca_V (As := [.int (iI (pOf S row i)), .int (iI (3))]) (rest := []) hC hw (c_pc_ruleOf l G S (pOf S row i) 3 hI (by omega) (by omega)) (cv_cr_248 hC rfl rfl (Nat.le_of_ble_eq_true rfl) (Nat.le_of_ble_eq_true rfl)) (by decide) rfl rfl rfl hl.1 rfl (Nat.le_of_ble_eq_true rfl) d_cr_conflictWith_197 ⟨Nat.le_of_ble_eq_true rfl, Nat.le_of_ble_eq_true rfl⟩) ?_
              have r_29 := rOf_b hI (pOf S row i) 3
              refine lv_iconst (v := iI 1) hC.1 hC.2.1 d_cr_conflictWith_200 rfl ?_
              refine ir_ne (tgt := 208) hC.1 hC.2.1 d_cr_conflictWith_201 (by decide) ⟨by omega, by omega⟩ (by decide) (fun c_30 => ?_) (fun c_30 => ?_)
              · skip
                refine lv_iconst (v := iI 0) hC.1 hC.2.1 d_cr_conflictWith_208 rfl ?_
                refine lv_istore (lv' := [(9, .int (iI (0))), (8, .int (iI (0))), (7, .int (iI (S 18 k.toNat))), (6, .int (iI (S 18 row.toNat))), (5, .int (iI (stO S k (pOf S row i)))), (4, .int (iI (pOf S row i))), (0, .ref (G.2.1 0)), (1, .int (iI (k))), (2, .int (iI (row))), (3, .int (iI (i)))]) hC.1 hC.2.1 d_cr_conflictWith_209 hl (by decide) rfl (fun ls hl => ?_)
                refine lv_iload hC.1 hC.2.1 d_cr_conflictWith_211 (lv_at hl 0 rfl) ?_
                refine ir_if_ne (tgt := 221) hC.1 hC.2.1 d_cr_conflictWith_213 (by decide) (by decide) (fun c_31 => ?_) (fun c_31 => ?_)
                · exact absurd c_31 (by decide)
                · skip
                  refine lv_iload hC.1 hC.2.1 d_cr_conflictWith_216 (lv_at hl 1 rfl) ?_
                  refine ir_if_eq (tgt := 226) hC.1 hC.2.1 d_cr_conflictWith_218 (by decide) (by decide) (fun c_32 => ?_) (fun c_32 => ?_)
                  · skip
                    refine lv_iconst (v := iI 0) hC.1 hC.2.1 d_cr_conflictWith_226 rfl ?_
                    exact rt_R hC hr hlk (by first | rfl | (simp [cfw, c_3, c_8, c_12, c_14, c_18, c_21, c_30]; done) | (simp [cfw, c_3, c_8, c_12, c_14, c_18, c_21, c_30]; omega) | (simp [cfw, c_3, c_8, c_12, c_14, c_18, c_21, c_30] <;> split <;> omega) | omega) d_cr_conflictWith_227
                  · exact absurd c_32 (by decide)
              · skip
                refine lv_iconst (v := iI 1) hC.1 hC.2.1 d_cr_conflictWith_204 rfl ?_
                refine lv_goto (tgt := 209) hC.1 hC.2.1 d_cr_conflictWith_205 (by decide) ?_
                refine lv_istore (lv' := [(9, .int (iI (1))), (8, .int (iI (0))), (7, .int (iI (S 18 k.toNat))), (6, .int (iI (S 18 row.toNat))), (5, .int (iI (stO S k (pOf S row i)))), (4, .int (iI (pOf S row i))), (0, .ref (G.2.1 0)), (1, .int (iI (k))), (2, .int (iI (row))), (3, .int (iI (i)))]) hC.1 hC.2.1 d_cr_conflictWith_209 hl (by decide) rfl (fun ls hl => ?_)
                refine lv_iload hC.1 hC.2.1 d_cr_conflictWith_211 (lv_at hl 0 rfl) ?_
                refine ir_if_ne (tgt := 221) hC.1 hC.2.1 d_cr_conflictWith_213 (by decide) (by decide) (fun c_33 => ?_) (fun c_33 => ?_)
                · skip
                  refine lv_bipush (v := iI 6) hC.1 hC.2.1 d_cr_conflictWith_221 (by decide +kernel) ?_
                  refine lv_goto (tgt := 227) hC.1 hC.2.1 d_cr_conflictWith_223 (by decide) ?_
                  exact rt_R hC hr hlk (by first | rfl | (simp [cfw, c_3, c_8, c_12, c_14, c_18, c_21, c_30]; done) | (simp [cfw, c_3, c_8, c_12, c_14, c_18, c_21, c_30]; omega) | (simp [cfw, c_3, c_8, c_12, c_14, c_18, c_21, c_30] <;> split <;> omega) | omega) d_cr_conflictWith_227
                · exact absurd c_33 (by decide)
          · skip
            refine lv_iconst (v := iI 1) hC.1 hC.2.1 d_cr_conflictWith_161 rfl ?_
            refine lv_goto (tgt := 166) hC.1 hC.2.1 d_cr_conflictWith_162 (by decide) ?_
            refine lv_istore (lv' := [(8, .int (iI (1))), (7, .int (iI (S 18 k.toNat))), (6, .int (iI (S 18 row.toNat))), (5, .int (iI (stO S k (pOf S row i)))), (4, .int (iI (pOf S row i))), (0, .ref (G.2.1 0)), (1, .int (iI (k))), (2, .int (iI (row))), (3, .int (iI (i)))]) hC.1 hC.2.1 d_cr_conflictWith_166 hl (by decide) rfl (fun ls hl => ?_)
            refine lv_aload_n hC.1 hC.2.1 d_cr_conflictWith_168 rfl (lv_at hl 5 rfl) ?_
            refine gf_cr_26 hC hw d_cr_conflictWith_169 ?_
            refine lv_iload_n hC.1 hC.2.1 d_cr_conflictWith_172 rfl (lv_at hl 7 rfl) ?_
            refine lv_iload_n hC.1 hC.2.1 d_cr_conflictWith_173 rfl (lv_at hl 8 rfl) ?_
            refine go_R (ca_V (As := [.int (iI (row)), .int (iI (i))]) (rest := []) hC hw (c_ps_isForward l G S row i hI (by omega) (by omega)) (cv_cr_175 hC rfl rfl (Nat.le_of_ble_eq_true rfl) (Nat.le_of_ble_eq_true rfl)) (by decide) rfl rfl rfl hl.1 rfl (Nat.le_of_ble_eq_true rfl) d_cr_conflictWith_174 ⟨Nat.le_of_ble_eq_true rfl, Nat.le_of_ble_eq_true rfl⟩) ?_
            have r_34 := fOf_b hI row i
            refine lv_aload_n hC.1 hC.2.1 d_cr_conflictWith_177 rfl (lv_at hl 5 rfl) ?_
            refine gf_cr_26 hC hw d_cr_conflictWith_178 ?_
            refine lv_iload_n hC.1 hC.2.1 d_cr_conflictWith_181 rfl (lv_at hl 6 rfl) ?_
            refine lv_iload hC.1 hC.2.1 d_cr_conflictWith_182 (lv_at hl 3 rfl) ?_
            refine go_R (ca_V (As := [.int (iI (k)), .int (iI (stO S k (pOf S row i)))]) (rest := [.int (iI (fOf S row i))]) hC hw (c_ps_isForward l G S k (stO S k (pOf S row i)) hI (by omega) (by omega)) (cv_cr_175 hC rfl rfl (Nat.le_of_ble_eq_true rfl) (Nat.le_of_ble_eq_true rfl)) (by decide) rfl rfl rfl hl.1 rfl (Nat.le_of_ble_eq_true rfl) d_cr_conflictWith_184 ⟨Nat.le_of_ble_eq_true rfl, Nat.le_of_ble_eq_true rfl⟩) ?_
            have r_35 := fOf_b hI k (stO S k (pOf S row i))
            refine ir_eq (tgt := 228) hC.1 hC.2.1 d_cr_conflictWith_187 (by decide) ⟨by omega, by omega⟩ ⟨by omega, by omega⟩ (fun c_36 => ?_) (fun c_36 => ?_)
            · skip
              refine lv_aload_n hC.1 hC.2.1 d_cr_conflictWith_228 rfl (lv_at hl 5 rfl) ?_
              refine gf_cr_12 hC hw d_cr_conflictWith_229 ?_
              refine lv_iload hC.1 hC.2.1 d_cr_conflictWith_232 (lv_at hl 4 rfl) ?_
              refine lv_iconst (v := iI 4) hC.1 hC.2.1 d_cr_conflictWith_234 rfl ?_
              refine go_R (ca_V (As := [.int (iI (pOf S row i)), .int (iI (4))]) (rest := []) hC hw (c_pc_ruleOf l G S (pOf S row i) 4 hI (by omega) (by omega)) (cv_cr_248 hC rfl rfl (Nat.le_of_ble_eq_true rfl) (Nat.le_of_ble_eq_true rfl)) (by decide) rfl rfl rfl hl.1 rfl (Nat.le_of_ble_eq_true rfl) d_cr_conflictWith_235 ⟨Nat.le_of_ble_eq_true rfl, Nat.le_of_ble_eq_true rfl⟩) ?_
              have r_37 := rOf_b hI (pOf S row i) 4
              refine lv_iconst (v := iI 1) hC.1 hC.2.1 d_cr_conflictWith_238 rfl ?_
              refine ir_ne (tgt := 246) hC.1 hC.2.1 d_cr_conflictWith_239 (by decide) ⟨by omega, by omega⟩ (by decide) (fun c_38 => ?_) (fun c_38 => ?_)
              · skip
                refine lv_iconst (v := iI 0) hC.1 hC.2.1 d_cr_conflictWith_246 rfl ?_
                refine lv_istore (lv' := [(9, .int (iI (0))), (8, .int (iI (1))), (7, .int (iI (S 18 k.toNat))), (6, .int (iI (S 18 row.toNat))), (5, .int (iI (stO S k (pOf S row i)))), (4, .int (iI (pOf S row i))), (0, .ref (G.2.1 0)), (1, .int (iI (k))), (2, .int (iI (row))), (3, .int (iI (i)))]) hC.1 hC.2.1 d_cr_conflictWith_247 hl (by decide) rfl (fun ls hl => ?_)
                refine lv_aload_n hC.1 hC.2.1 d_cr_conflictWith_249 rfl (lv_at hl 6 rfl) ?_
                refine gf_cr_26 hC hw d_cr_conflictWith_250 ?_
                refine lv_iload_n hC.1 hC.2.1 d_cr_conflictWith_253 rfl (lv_at hl 8 rfl) ?_
                refine lv_iload_n hC.1 hC.2.1 d_cr_conflictWith_254 rfl (lv_at hl 9 rfl) ?_
                refine lv_iload_n hC.1 hC.2.1 d_cr_conflictWith_255 rfl (lv_at hl 7 rfl) ?_
                refine lv_iload hC.1 hC.2.1 d_cr_conflictWith_256 (lv_at hl 4 rfl) ?_
                refine go_R (ca_V (As := [.int (iI (row)), .int (iI (i)), .int (iI (k)), .int (iI (stO S k (pOf S row i)))]) (rest := []) hC hw (c_ps_isOvertaking l G S row i k (stO S k (pOf S row i)) hI (by omega) (by omega) (by omega) (by omega)) (cv_cr_267 hC rfl rfl (Nat.le_of_ble_eq_true rfl) (Nat.le_of_ble_eq_true rfl)) (by decide) rfl rfl rfl hl.1 rfl (Nat.le_of_ble_eq_true rfl) d_cr_conflictWith_258 ⟨Nat.le_of_ble_eq_true rfl, Nat.le_of_ble_eq_true rfl⟩) ?_
                refine ir_beq (tgt := 279) hC d_cr_conflictWith_261 (by decide) (fun c_39 => ?_) (fun c_39 => ?_)
                · skip
                  refine lv_iconst (v := iI 0) hC.1 hC.2.1 d_cr_conflictWith_279 rfl ?_
                  exact rt_R hC hr hlk (by first | rfl | (simp [cfw, c_3, c_8, c_12, c_14, c_18, c_36, c_38, c_39]; done) | (simp [cfw, c_3, c_8, c_12, c_14, c_18, c_36, c_38, c_39]; omega) | (simp [cfw, c_3, c_8, c_12, c_14, c_18, c_36, c_38, c_39] <;> split <;> omega) | omega) d_cr_conflictWith_280
                · skip
                  refine lv_iload hC.1 hC.2.1 d_cr_conflictWith_264 (lv_at hl 0 rfl) ?_
                  refine ir_if_eq (tgt := 274) hC.1 hC.2.1 d_cr_conflictWith_266 (by decide) (by decide) (fun c_40 => ?_) (fun c_40 => ?_)
                  · skip
                    refine lv_bipush (v := iI 7) hC.1 hC.2.1 d_cr_conflictWith_274 (by decide +kernel) ?_
                    refine lv_goto (tgt := 280) hC.1 hC.2.1 d_cr_conflictWith_276 (by decide) ?_
                    exact rt_R hC hr hlk (by first | rfl | (simp [cfw, c_3, c_8, c_12, c_14, c_18, c_36, c_38, c_39]; done) | (simp [cfw, c_3, c_8, c_12, c_14, c_18, c_36, c_38, c_39]; omega) | (simp [cfw, c_3, c_8, c_12, c_14, c_18, c_36, c_38, c_39] <;> split <;> omega) | omega) d_cr_conflictWith_280
                  · exact absurd c_40 (by decide)
              · skip
                refine lv_iconst (v := iI 1) hC.1 hC.2.1 d_cr_conflictWith_242 rfl ?_
                refine lv_goto (tgt := 247) hC.1 hC.2.1 d_cr_conflictWith_243 (by decide) ?_
                refine lv_istore (lv' := [(9, .int (iI (1))), (8, .int (iI (1))), (7, .int (iI (S 18 k.toNat))), (6, .int (iI (S 18 row.toNat))), (5, .int (iI (stO S k (pOf S row i)))), (4, .int (iI (pOf S row i))), (0, .ref (G.2.1 0)), (1, .int (iI (k))), (2, .int (iI (row))), (3, .int (iI (i)))]) hC.1 hC.2.1 d_cr_conflictWith_247 hl (by decide) rfl (fun ls hl => ?_)
                refine lv_aload_n hC.1 hC.2.1 d_cr_conflictWith_249 rfl (lv_at hl 6 rfl) ?_
                refine gf_cr_26 hC hw d_cr_conflictWith_250 ?_
                refine lv_iload_n hC.1 hC.2.1 d_cr_conflictWith_253 rfl (lv_at hl 8 rfl) ?_
                refine lv_iload_n hC.1 hC.2.1 d_cr_conflictWith_254 rfl (lv_at hl 9 rfl) ?_
                refine lv_iload_n hC.1 hC.2.1 d_cr_conflictWith_255 rfl (lv_at hl 7 rfl) ?_
                refine lv_iload hC.1 hC.2.1 d_cr_conflictWith_256 (lv_at hl 4 rfl) ?_
                refine go_R (ca_V (As := [.int (iI (row)), .int (iI (i)), .int (iI (k)), .int (iI (stO S k (pOf S row i)))]) (rest := []) hC hw (c_ps_isOvertaking l G S row i k (stO S k (pOf S row i)) hI (by omega) (by omega) (by omega) (by omega)) (cv_cr_267 hC rfl rfl (Nat.le_of_ble_eq_true rfl) (Nat.le_of_ble_eq_true rfl)) (by decide) rfl rfl rfl hl.1 rfl (Nat.le_of_ble_eq_true rfl) d_cr_conflictWith_258 ⟨Nat.le_of_ble_eq_true rfl, Nat.le_of_ble_eq_true rfl⟩) ?_
                refine ir_beq (tgt := 279) hC d_cr_conflictWith_261 (by decide) (fun c_41 => ?_) (fun c_41 => ?_)
                · skip
                  refine lv_iconst (v := iI 0) hC.1 hC.2.1 d_cr_conflictWith_279 rfl ?_
                  exact rt_R hC hr hlk (by first | rfl | (simp [cfw, c_3, c_8, c_12, c_14, c_18, c_36, c_38, c_41]; done) | (simp [cfw, c_3, c_8, c_12, c_14, c_18, c_36, c_38, c_41]; omega) | (simp [cfw, c_3, c_8, c_12, c_14, c_18, c_36, c_38, c_41] <;> split <;> omega) | omega) d_cr_conflictWith_280
                · skip
                  refine lv_iload hC.1 hC.2.1 d_cr_conflictWith_264 (lv_at hl 0 rfl) ?_
                  refine ir_if_eq (tgt := 274) hC.1 hC.2.1 d_cr_conflictWith_266 (by decide) (by decide) (fun c_42 => ?_) (fun c_42 => ?_)
                  · exact absurd c_42 (by decide)
                  · skip
                    refine lv_iload hC.1 hC.2.1 d_cr_conflictWith_269 (lv_at hl 1 rfl) ?_
                    refine ir_if_eq (tgt := 279) hC.1 hC.2.1 d_cr_conflictWith_271 (by decide) (by decide) (fun c_43 => ?_) (fun c_43 => ?_)
                    · exact absurd c_43 (by decide)
                    · skip
                      refine lv_bipush (v := iI 7) hC.1 hC.2.1 d_cr_conflictWith_274 (by decide +kernel) ?_
                      refine lv_goto (tgt := 280) hC.1 hC.2.1 d_cr_conflictWith_276 (by decide) ?_
                      exact rt_R hC hr hlk (by first | rfl | (simp [cfw, c_3, c_8, c_12, c_14, c_18, c_36, c_38, c_41]; done) | (simp [cfw, c_3, c_8, c_12, c_14, c_18, c_36, c_38, c_41]; omega) | (simp [cfw, c_3, c_8, c_12, c_14, c_18, c_36, c_38, c_41] <;> split <;> omega) | omega) d_cr_conflictWith_280
            · skip
              refine lv_aload_n hC.1 hC.2.1 d_cr_conflictWith_190 rfl (lv_at hl 5 rfl) ?_
              refine gf_cr_12 hC hw d_cr_conflictWith_191 ?_
              refine lv_iload hC.1 hC.2.1 d_cr_conflictWith_194 (lv_at hl 4 rfl) ?_
              refine lv_iconst (v := iI 3) hC.1 hC.2.1 d_cr_conflictWith_196 rfl ?_
              refine go_R (ca_V (As := [.int (iI (pOf S row i)), .int (iI (3))]) (rest := []) hC hw (c_pc_ruleOf l G S (pOf S row i) 3 hI (by omega) (by omega)) (cv_cr_248 hC rfl rfl (Nat.le_of_ble_eq_true rfl) (Nat.le_of_ble_eq_true rfl)) (by decide) rfl rfl rfl hl.1 rfl (Nat.le_of_ble_eq_true rfl) d_cr_conflictWith_197 ⟨Nat.le_of_ble_eq_true rfl, Nat.le_of_ble_eq_true rfl⟩) ?_
              have r_44 := rOf_b hI (pOf S row i) 3
              refine lv_iconst (v := iI 1) hC.1 hC.2.1 d_cr_conflictWith_200 rfl ?_
              refine ir_ne (tgt := 208) hC.1 hC.2.1 d_cr_conflictWith_201 (by decide) ⟨by omega, by omega⟩ (by decide) (fun c_45 => ?_) (fun c_45 => ?_)
              · skip
                refine lv_iconst (v := iI 0) hC.1 hC.2.1 d_cr_conflictWith_208 rfl ?_
                refine lv_istore (lv' := [(9, .int (iI (0))), (8, .int (iI (1))), (7, .int (iI (S 18 k.toNat))), (6, .int (iI (S 18 row.toNat))), (5, .int (iI (stO S k (pOf S row i)))), (4, .int (iI (pOf S row i))), (0, .ref (G.2.1 0)), (1, .int (iI (k))), (2, .int (iI (row))), (3, .int (iI (i)))]) hC.1 hC.2.1 d_cr_conflictWith_209 hl (by decide) rfl (fun ls hl => ?_)
                refine lv_iload hC.1 hC.2.1 d_cr_conflictWith_211 (lv_at hl 0 rfl) ?_
                refine ir_if_ne (tgt := 221) hC.1 hC.2.1 d_cr_conflictWith_213 (by decide) (by decide) (fun c_46 => ?_) (fun c_46 => ?_)
                · exact absurd c_46 (by decide)
                · skip
                  refine lv_iload hC.1 hC.2.1 d_cr_conflictWith_216 (lv_at hl 1 rfl) ?_
                  refine ir_if_eq (tgt := 226) hC.1 hC.2.1 d_cr_conflictWith_218 (by decide) (by decide) (fun c_47 => ?_) (fun c_47 => ?_)
                  · exact absurd c_47 (by decide)
                  · skip
                    refine lv_bipush (v := iI 6) hC.1 hC.2.1 d_cr_conflictWith_221 (by decide +kernel) ?_
                    refine lv_goto (tgt := 227) hC.1 hC.2.1 d_cr_conflictWith_223 (by decide) ?_
                    exact rt_R hC hr hlk (by first | rfl | (simp [cfw, c_3, c_8, c_12, c_14, c_18, c_36, c_45]; done) | (simp [cfw, c_3, c_8, c_12, c_14, c_18, c_36, c_45]; omega) | (simp [cfw, c_3, c_8, c_12, c_14, c_18, c_36, c_45] <;> split <;> omega) | omega) d_cr_conflictWith_227
              · skip
                refine lv_iconst (v := iI 1) hC.1 hC.2.1 d_cr_conflictWith_204 rfl ?_
                refine lv_goto (tgt := 209) hC.1 hC.2.1 d_cr_conflictWith_205 (by decide) ?_
                refine lv_istore (lv' := [(9, .int (iI (1))), (8, .int (iI (1))), (7, .int (iI (S 18 k.toNat))), (6, .int (iI (S 18 row.toNat))), (5, .int (iI (stO S k (pOf S row i)))), (4, .int (iI (pOf S row i))), (0, .ref (G.2.1 0)), (1, .int (iI (k))), (2, .int (iI (row))), (3, .int (iI (i)))]) hC.1 hC.2.1 d_cr_conflictWith_209 hl (by decide) rfl (fun ls hl => ?_)
                refine lv_iload hC.1 hC.2.1 d_cr_conflictWith_211 (lv_at hl 0 rfl) ?_
                refine ir_if_ne (tgt := 221) hC.1 hC.2.1 d_cr_conflictWith_213 (by decide) (by decide) (fun c_48 => ?_) (fun c_48 => ?_)
                · skip
                  refine lv_bipush (v := iI 6) hC.1 hC.2.1 d_cr_conflictWith_221 (by decide +kernel) ?_
                  refine lv_goto (tgt := 227) hC.1 hC.2.1 d_cr_conflictWith_223 (by decide) ?_
                  exact rt_R hC hr hlk (by first | rfl | (simp [cfw, c_3, c_8, c_12, c_14, c_18, c_36, c_45]; done) | (simp [cfw, c_3, c_8, c_12, c_14, c_18, c_36, c_45]; omega) | (simp [cfw, c_3, c_8, c_12, c_14, c_18, c_36, c_45] <;> split <;> omega) | omega) d_cr_conflictWith_227
                · exact absurd c_48 (by decide)
        · skip
          refine lv_iconst (v := iI 5) hC.1 hC.2.1 d_cr_conflictWith_125 rfl ?_
          exact rt_R hC hr hlk (by first | rfl | (simp [cfw, c_3, c_8, c_12, c_14]; done) | (simp [cfw, c_3, c_8, c_12, c_14]; omega) | (simp [cfw, c_3, c_8, c_12, c_14] <;> split <;> omega) | omega) d_cr_conflictWith_126
    · skip
      refine lv_iconst (v := iI 0) hC.1 hC.2.1 d_cr_conflictWith_73 rfl ?_
      exact rt_R hC hr hlk (by first | rfl | (simp [cfw, c_3, c_8]; done) | (simp [cfw, c_3, c_8]; omega) | (simp [cfw, c_3, c_8] <;> split <;> omega) | omega) d_cr_conflictWith_74

/-! the class, as functions of the state: bars, waits, the next piece -/
def bSl (S : St) (row i : Int) : Nat → Int
  | 0 => 0
  | k + 1 => if (k : Int) + 1 = row then bSl S row i k else if S 17 ((k : Int) + 1).toNat = 0 then bSl S row i k else if cfw S ((k : Int) + 1) row i = 0 then bSl S row i k else if bSl S row i k = 0 ∨ cfw S ((k : Int) + 1) row i < bSl S row i k then cfw S ((k : Int) + 1) row i else bSl S row i k
theorem bSl_s (S : St) (row i : Int) (k : Nat) : bSl S row i (k + 1) = if (k : Int) + 1 = row then bSl S row i k else if S 17 ((k : Int) + 1).toNat = 0 then bSl S row i k else if cfw S ((k : Int) + 1) row i = 0 then bSl S row i k else if bSl S row i k = 0 ∨ cfw S ((k : Int) + 1) row i < bSl S row i k then cfw S ((k : Int) + 1) row i else bSl S row i k := rfl
theorem bSl_b (S : St) (row i : Int) (k : Nat) : 0 ≤ bSl S row i k ∧ bSl S row i k ≤ 7 := by
  induction k with
  | zero => simp [bSl]
  | succ k ih =>
    have h1 := cfw_b S ((k : Int) + 1) row i
    rw [bSl_s]
    repeat (first | omega | split)
def brr (S : St) (row i : Int) : Int := if bPc S row i = 0 then bSl S row i (S 3 0).toNat else bPc S row i
theorem brr_b (S : St) (row i : Int) : 0 ≤ brr S row i ∧ brr S row i ≤ 7 := by
  have h1 := bSl_b S row i (S 3 0).toNat
  have h2 := bPc_b S row i
  unfold brr
  split <;> omega
def fBr (S : St) (row : Int) : Nat → Nat → Int
  | _, 0 => 0
  | i, n + 1 => if brr S row (i : Int) = 0 then fBr S row (i + 1) n else brr S row (i : Int)
theorem fBr_s (S : St) (row : Int) (i n : Nat) (h : i < n) : fBr S row i (n - i) = if brr S row (i : Int) = 0 then fBr S row (i + 1) (n - (i + 1)) else brr S row (i : Int) := by
  have e : n - i = (n - (i + 1)) + 1 := by omega
  rw [e]
  rfl
theorem fBr_b (S : St) (row : Int) (i n : Nat) : 0 ≤ fBr S row i n ∧ fBr S row i n ≤ 7 := by
  induction n generalizing i with
  | zero => simp [fBr]
  | succ n ih =>
    have h1 := brr_b S row (i : Int)
    unfold fBr
    split
    · exact ih (i + 1)
    · exact h1
theorem mtm_b (t : Int) : 0 ≤ (300 - t) % 1440 ∧ (300 - t) % 1440 < 1440 := by omega
def pWp (S : St) (i : Int) : Int := if agW S 0 i = true ∨ bWd S 0 i = true then 1000000 else max (clF S (pOf S 0 i) (enA S 0 i) (lvA S 0 i) (S 11 (pOf S 0 i).toNat).toNat) (if bNt S 0 i = true then (300 - enA S 0 i) % 1440 else 0)
theorem pWp_b {S : St} (h : Inv S) (i : Int) : 0 ≤ pWp S i ∧ pWp S i ≤ 1000000 := by
  have h0 := enA_b h 0 i
  have h1 := clF_b h (pOf S 0 i) (enA S 0 i) (lvA S 0 i) (S 11 (pOf S 0 i).toNat).toNat
  unfold pWp
  split
  · omega
  · split <;> omega
def pWf (S : St) (k i : Int) : Int := if cfw S k 0 i = 0 ∨ stO S k (pOf S 0 i) = -1 then 0 else if ¬ cfw S k 0 i = 7 then lvA S k (stO S k (pOf S 0 i)) - enA S 0 i else max (enA S k (stO S k (pOf S 0 i)) - enA S 0 i) (lvA S k (stO S k (pOf S 0 i)) - lvA S 0 i) + 1
theorem pWf_b {S : St} (h : Inv S) (k i : Int) : -200000 ≤ pWf S k i ∧ pWf S k i ≤ 200000 := by
  have h0 := enA_b h 0 i
  have h1 := lvA_b h 0 i
  have h2 := enA_b h k (stO S k (pOf S 0 i))
  have h3 := lvA_b h k (stO S k (pOf S 0 i))
  unfold pWf
  split
  · omega
  · split <;> omega
def pWs (S : St) (i : Int) : Nat → Int
  | 0 => 0
  | k + 1 => if S 17 ((k : Int) + 1).toNat = 0 then pWs S i k else max (pWs S i k) (pWf S ((k : Int) + 1) i)
theorem pWs_s (S : St) (i : Int) (k : Nat) : pWs S i (k + 1) = if S 17 ((k : Int) + 1).toNat = 0 then pWs S i k else max (pWs S i k) (pWf S ((k : Int) + 1) i) := rfl
theorem pWs_b {S : St} (h : Inv S) (i : Int) (k : Nat) : 0 ≤ pWs S i k ∧ pWs S i k ≤ 200000 := by
  induction k with
  | zero => simp [pWs]
  | succ k ih =>
    have h1 := pWf_b h ((k : Int) + 1) i
    rw [pWs_s]
    split <;> omega
def pWt (S : St) : Nat → Int
  | 0 => 0
  | k + 1 => max (pWt S k) (max (pWp S (k : Int)) (pWs S (k : Int) (S 3 0).toNat))
theorem pWt_s (S : St) (k : Nat) : pWt S (k + 1) = max (pWt S k) (max (pWp S (k : Int)) (pWs S (k : Int) (S 3 0).toNat)) := rfl
theorem pWt_b {S : St} (h : Inv S) (k : Nat) : 0 ≤ pWt S k ∧ pWt S k ≤ 1000000 := by
  induction k with
  | zero => simp [pWt]
  | succ k ih =>
    have h1 := pWp_b h (k : Int)
    have h2 := pWs_b h (k : Int) (S 3 0).toNat
    rw [pWt_s]
    omega
def nxF (S : St) (sh t : Int) : Nat → Nat → Int
  | _, 0 => -1
  | q, n + 1 => if ¬ oEnd S (q : Int) t = -1 ∧ fts S sh (q : Int) = true ∧ S 4 t.toNat = tTm S sh (q : Int) + S 4 (oEnd S (q : Int) t).toNat then (q : Int) else nxF S sh t (q + 1) n
theorem nxF_s (S : St) (sh t : Int) (q n : Nat) (h : q < n) : nxF S sh t q (n - q) = if ¬ oEnd S (q : Int) t = -1 ∧ fts S sh (q : Int) = true ∧ S 4 t.toNat = tTm S sh (q : Int) + S 4 (oEnd S (q : Int) t).toNat then (q : Int) else nxF S sh t (q + 1) (n - (q + 1)) := by
  have e : n - q = (n - (q + 1)) + 1 := by omega
  rw [e]
  rfl
theorem nxF_b (S : St) (sh t : Int) (q n : Nat) : -1 ≤ nxF S sh t q n ∧ nxF S sh t q n < (q : Int) + n := by
  induction n generalizing q with
  | zero => unfold nxF; omega
  | succ n ih =>
    have h1 := ih (q + 1)
    unfold nxF
    split <;> omega
def nxP (S : St) (sh t : Int) : Int := if 1000000 ≤ S 4 t.toNat then -1 else nxF S sh t 0 (S 1 0).toNat
theorem nxP_b (S : St) (sh t : Int) : -1 ≤ nxP S sh t ∧ nxP S sh t < max (S 1 0) 0 := by
  have h1 := nxF_b S sh t 0 (S 1 0).toNat
  unfold nxP
  split <;> omega
set_option maxHeartbeats 4000000 in
set_option maxRecDepth 100000 in
theorem c_cr_barBySlots (l : Launch) (G : Gt) (S : St) (row : Int) (i : Int) (hI : Inv S) (hrow : 0 ≤ row ∧ row ≤ 30) (hi : 0 ≤ i ∧ i < 7) : Met l y_cr_barBySlots [.code y_cr_barBySlots b_cr_barBySlots 6 (some .int)] { frames := 3, cells := 0, slots := 0, locals := 79 } (va_Pc [.ref (G.2.1 0), .int (iI (row)), .int (iI (i))] (fun U => wu G S U)) (qR (bSl S row i (S 3 0).toNat)) 0 0 (fun _ => False) := by
  refine mt_of (by decide +kernel) (Nat.le_of_ble_eq_true rfl) ?_
  intro p e s m below meth c ls hadm hC hr hlk hex hw hl
  have hC : CallFix p m c b_cr_barBySlots 6 s _ tws "ChannelRules" := hC
  have hl : lv_has ls 6 [(0, .ref (G.2.1 0)), (1, .int (iI (row))), (2, .int (iI (i)))] := hl
  have i3 := iv_3 hI 0
  refine lv_iconst (v := iI 0) hC.1 hC.2.1 d_cr_barBySlots_0 rfl ?_
  refine lv_istore_n (lv' := [(3, .int (iI (0))), (0, .ref (G.2.1 0)), (1, .int (iI (row))), (2, .int (iI (i)))]) hC.1 hC.2.1 d_cr_barBySlots_1 rfl hl (by decide) rfl (fun ls hl => ?_)
  refine lv_iconst (v := iI 1) hC.1 hC.2.1 d_cr_barBySlots_2 rfl ?_
  refine lv_istore (lv' := [(4, .int (iI (1))), (3, .int (iI (0))), (0, .ref (G.2.1 0)), (1, .int (iI (row))), (2, .int (iI (i)))]) hC.1 hC.2.1 d_cr_barBySlots_3 hl (by decide) rfl (fun ls hl => ?_)
  have loop_5 : ∀ (nn : Nat) (k : Nat) (x3 : Int) (x4 : Int), (S 3 0).toNat - k < nn → x3 = bSl S row i k → x4 = (k : Int) + 1 → (k : Int) ≤ S 3 0 → ∀ (ls : Array Slot), lv_has ls 6 [(4, .int (iI (x4))), (3, .int (iI (x3))), (0, .ref (G.2.1 0)), (1, .int (iI (row))), (2, .int (iI (i)))] → W p l e { frames := 3, cells := 0, slots := 0, locals := 79 } s m ([.ref (G.2.1 0), .int (iI (row)), .int (iI (i))] : List Value).toArray below meth c s.heap [] 0 0 (MQ below (qR (bSl S row i (S 3 0).toNat)) ([.ref (G.2.1 0), .int (iI (row)), .int (iI (i))] : List Value).toArray s 0 0 (fun _ => False)) (F0 m 5 ls []) := by
    intro nn
    induction nn with
    | zero => intros; omega
    | succ nn ih_5 =>
      intro k x3 x4 hms_5 hx3 hx4 hv0 ls hl
      have bk := bSl_b S row i k
      refine lv_iload hC.1 hC.2.1 d_cr_barBySlots_5 (lv_at hl 0 rfl) ?_
      refine lv_aload_n hC.1 hC.2.1 d_cr_barBySlots_7 rfl (lv_at hl 2 rfl) ?_
      refine gf_cr_26 hC hw d_cr_barBySlots_8 ?_
      refine gf_cr_110 hC hw d_cr_barBySlots_11 ?_
      have b_1 := iv_3 hI 0
      refine ir_gt (tgt := 70) hC.1 hC.2.1 d_cr_barBySlots_14 (by decide) ⟨by omega, by omega⟩ ⟨by omega, by omega⟩ (fun c_2 => ?_) (fun c_2 => ?_)
      · skip
        refine lv_iload_n hC.1 hC.2.1 d_cr_barBySlots_70 rfl (lv_at hl 1 rfl) ?_
        exact rt_R hC hr hlk (by rw [hx3, show (S 3 0).toNat = k by omega]) d_cr_barBySlots_71
      · skip
        refine lv_iload hC.1 hC.2.1 d_cr_barBySlots_17 (lv_at hl 0 rfl) ?_
        refine lv_iload_n hC.1 hC.2.1 d_cr_barBySlots_19 rfl (lv_at hl 3 rfl) ?_
        refine ir_eq (tgt := 64) hC.1 hC.2.1 d_cr_barBySlots_20 (by decide) ⟨by omega, by omega⟩ ⟨by omega, by omega⟩ (fun c_3 => ?_) (fun c_3 => ?_)
        · skip
          refine lv_iinc (v := iI (x4 + 1)) (lv' := [(4, .int (iI (x4 + 1))), (3, .int (iI (x3))), (0, .ref (G.2.1 0)), (1, .int (iI (row))), (2, .int (iI (i)))]) hC.1 hC.2.1 d_cr_barBySlots_64 hl (k := 0) rfl (iI_add _ _) (by decide) rfl (fun ls hl => ?_)
          refine lv_goto (tgt := 5) hC.1 hC.2.1 d_cr_barBySlots_67 (by decide) ?_
          exact ih_5 (k + 1) _ _ (by omega) (by have g := bSl_s S row i k; simp only [hx4] at *; first | (simp [g, *]; done) | (simp [g, *]; omega) | (rw [g]; (repeat' split) <;> first | omega | (simp_all; done) | (simp_all; omega))) (by first | rfl | omega) (by omega) _ (lv_sub hl [0, 1, 2, 3, 4] rfl)
        · skip
          refine lv_aload_n hC.1 hC.2.1 d_cr_barBySlots_23 rfl (lv_at hl 2 rfl) ?_
          refine gf_cr_26 hC hw d_cr_barBySlots_24 ?_
          refine gf_cr_142 hC hw d_cr_barBySlots_27 ?_
          refine lv_iload hC.1 hC.2.1 d_cr_barBySlots_30 (lv_at hl 0 rfl) ?_
          refine ld_17 hC hw (by omega) (by omega) d_cr_barBySlots_32 ?_
          have b_4 := iv_17 hI x4.toNat
          refine ir_if_eq (tgt := 64) hC.1 hC.2.1 d_cr_barBySlots_33 (by decide) ⟨by omega, by omega⟩ (fun c_5 => ?_) (fun c_5 => ?_)
          · skip
            refine lv_iinc (v := iI (x4 + 1)) (lv' := [(4, .int (iI (x4 + 1))), (3, .int (iI (x3))), (0, .ref (G.2.1 0)), (1, .int (iI (row))), (2, .int (iI (i)))]) hC.1 hC.2.1 d_cr_barBySlots_64 hl (k := 0) rfl (iI_add _ _) (by decide) rfl (fun ls hl => ?_)
            refine lv_goto (tgt := 5) hC.1 hC.2.1 d_cr_barBySlots_67 (by decide) ?_
            exact ih_5 (k + 1) _ _ (by omega) (by have g := bSl_s S row i k; simp only [hx4] at *; first | (simp [g, *]; done) | (simp [g, *]; omega) | (rw [g]; (repeat' split) <;> first | omega | (simp_all; done) | (simp_all; omega))) (by first | rfl | omega) (by omega) _ (lv_sub hl [0, 1, 2, 3, 4] rfl)
          · skip
            refine lv_aload_n hC.1 hC.2.1 d_cr_barBySlots_36 rfl (lv_at hl 2 rfl) ?_
            refine lv_iload hC.1 hC.2.1 d_cr_barBySlots_37 (lv_at hl 0 rfl) ?_
            refine lv_iload_n hC.1 hC.2.1 d_cr_barBySlots_39 rfl (lv_at hl 3 rfl) ?_
            refine lv_iload_n hC.1 hC.2.1 d_cr_barBySlots_40 rfl (lv_at hl 4 rfl) ?_
            refine go_R (ca_V (As := [.int (iI (x4)), .int (iI (row)), .int (iI (i))]) (rest := []) hC hw (c_cr_conflictWith l G S x4 row i hI (by omega) (by omega) (by omega)) (cv_cr_257 hC rfl rfl (Nat.le_of_ble_eq_true rfl) (Nat.le_of_ble_eq_true rfl)) (by decide) rfl rfl rfl hl.1 rfl (Nat.le_of_ble_eq_true rfl) d_cr_barBySlots_41 ⟨Nat.le_of_ble_eq_true rfl, Nat.le_of_ble_eq_true rfl⟩) ?_
            have r_6 := cfw_b S x4 row i
            refine lv_istore (lv' := [(5, .int (iI (cfw S x4 row i))), (4, .int (iI (x4))), (3, .int (iI (x3))), (0, .ref (G.2.1 0)), (1, .int (iI (row))), (2, .int (iI (i)))]) hC.1 hC.2.1 d_cr_barBySlots_44 hl (by decide) rfl (fun ls hl => ?_)
            refine lv_iload hC.1 hC.2.1 d_cr_barBySlots_46 (lv_at hl 0 rfl) ?_
            refine ir_if_eq (tgt := 64) hC.1 hC.2.1 d_cr_barBySlots_48 (by decide) ⟨by omega, by omega⟩ (fun c_7 => ?_) (fun c_7 => ?_)
            · skip
              refine lv_iinc (v := iI (x4 + 1)) (lv' := [(4, .int (iI (x4 + 1))), (5, .int (iI (cfw S x4 row i))), (3, .int (iI (x3))), (0, .ref (G.2.1 0)), (1, .int (iI (row))), (2, .int (iI (i)))]) hC.1 hC.2.1 d_cr_barBySlots_64 hl (k := 1) rfl (iI_add _ _) (by decide) rfl (fun ls hl => ?_)
              refine lv_goto (tgt := 5) hC.1 hC.2.1 d_cr_barBySlots_67 (by decide) ?_
              exact ih_5 (k + 1) _ _ (by omega) (by have g := bSl_s S row i k; simp only [hx4] at *; first | (simp [g, *]; done) | (simp [g, *]; omega) | (rw [g]; (repeat' split) <;> first | omega | (simp_all; done) | (simp_all; omega))) (by first | rfl | omega) (by omega) _ (lv_sub hl [0, 2, 3, 4, 5] rfl)
            · skip
              refine lv_iload_n hC.1 hC.2.1 d_cr_barBySlots_51 rfl (lv_at hl 2 rfl) ?_
              refine ir_if_eq (tgt := 61) hC.1 hC.2.1 d_cr_barBySlots_52 (by decide) ⟨by omega, by omega⟩ (fun c_8 => ?_) (fun c_8 => ?_)
              · skip
                refine lv_iload hC.1 hC.2.1 d_cr_barBySlots_61 (lv_at hl 0 rfl) ?_
                refine lv_istore_n (lv' := [(3, .int (iI (cfw S x4 row i))), (5, .int (iI (cfw S x4 row i))), (4, .int (iI (x4))), (0, .ref (G.2.1 0)), (1, .int (iI (row))), (2, .int (iI (i)))]) hC.1 hC.2.1 d_cr_barBySlots_63 rfl hl (by decide) rfl (fun ls hl => ?_)
                refine lv_iinc (v := iI (x4 + 1)) (lv' := [(4, .int (iI (x4 + 1))), (3, .int (iI (cfw S x4 row i))), (5, .int (iI (cfw S x4 row i))), (0, .ref (G.2.1 0)), (1, .int (iI (row))), (2, .int (iI (i)))]) hC.1 hC.2.1 d_cr_barBySlots_64 hl (k := 2) rfl (iI_add _ _) (by decide) rfl (fun ls hl => ?_)
                refine lv_goto (tgt := 5) hC.1 hC.2.1 d_cr_barBySlots_67 (by decide) ?_
                exact ih_5 (k + 1) _ _ (by omega) (by have g := bSl_s S row i k; simp only [hx4] at *; first | (simp [g, *]; done) | (simp [g, *]; omega) | (rw [g]; (repeat' split) <;> first | omega | (simp_all; done) | (simp_all; omega))) (by first | rfl | omega) (by omega) _ (lv_sub hl [0, 1, 3, 4, 5] rfl)
              · skip
                refine lv_iload hC.1 hC.2.1 d_cr_barBySlots_55 (lv_at hl 0 rfl) ?_
                refine lv_iload_n hC.1 hC.2.1 d_cr_barBySlots_57 rfl (lv_at hl 2 rfl) ?_
                refine ir_ge (tgt := 64) hC.1 hC.2.1 d_cr_barBySlots_58 (by decide) ⟨by omega, by omega⟩ ⟨by omega, by omega⟩ (fun c_9 => ?_) (fun c_9 => ?_)
                · skip
                  refine lv_iinc (v := iI (x4 + 1)) (lv' := [(4, .int (iI (x4 + 1))), (5, .int (iI (cfw S x4 row i))), (3, .int (iI (x3))), (0, .ref (G.2.1 0)), (1, .int (iI (row))), (2, .int (iI (i)))]) hC.1 hC.2.1 d_cr_barBySlots_64 hl (k := 1) rfl (iI_add _ _) (by decide) rfl (fun ls hl => ?_)
                  refine lv_goto (tgt := 5) hC.1 hC.2.1 d_cr_barBySlots_67 (by decide) ?_
                  exact ih_5 (k + 1) _ _ (by omega) (by have g := bSl_s S row i k; simp only [hx4] at *; first | (simp [g, *]; done) | (simp [g, *]; omega) | (rw [g]; (repeat' split) <;> first | omega | (simp_all; done) | (simp_all; omega))) (by first | rfl | omega) (by omega) _ (lv_sub hl [0, 2, 3, 4, 5] rfl)
                · skip
                  refine lv_iload hC.1 hC.2.1 d_cr_barBySlots_61 (lv_at hl 0 rfl) ?_
                  refine lv_istore_n (lv' := [(3, .int (iI (cfw S x4 row i))), (5, .int (iI (cfw S x4 row i))), (4, .int (iI (x4))), (0, .ref (G.2.1 0)), (1, .int (iI (row))), (2, .int (iI (i)))]) hC.1 hC.2.1 d_cr_barBySlots_63 rfl hl (by decide) rfl (fun ls hl => ?_)
                  refine lv_iinc (v := iI (x4 + 1)) (lv' := [(4, .int (iI (x4 + 1))), (3, .int (iI (cfw S x4 row i))), (5, .int (iI (cfw S x4 row i))), (0, .ref (G.2.1 0)), (1, .int (iI (row))), (2, .int (iI (i)))]) hC.1 hC.2.1 d_cr_barBySlots_64 hl (k := 2) rfl (iI_add _ _) (by decide) rfl (fun ls hl => ?_)
                  refine lv_goto (tgt := 5) hC.1 hC.2.1 d_cr_barBySlots_67 (by decide) ?_
                  exact ih_5 (k + 1) _ _ (by omega) (by have g := bSl_s S row i k; simp only [hx4] at *; first | (simp [g, *]; done) | (simp [g, *]; omega) | (rw [g]; (repeat' split) <;> first | omega | (simp_all; done) | (simp_all; omega))) (by first | rfl | omega) (by omega) _ (lv_sub hl [0, 1, 3, 4, 5] rfl)
  exact loop_5 _ 0 _ _ (Nat.lt_succ_self _) (by first | rfl | omega) (by first | rfl | omega) (by omega) _ (lv_sub hl [0, 1, 2, 3, 4] rfl)
set_option maxHeartbeats 4000000 in
set_option maxRecDepth 100000 in
theorem c_cr_firstBar (l : Launch) (G : Gt) (S : St) (row : Int) (hI : Inv S) (hrow : 0 ≤ row ∧ row ≤ 30) : Met l y_cr_firstBar [.code y_cr_firstBar b_cr_firstBar 4 (some .int)] { frames := 4, cells := 0, slots := 0, locals := 104 } (va_Pc [.ref (G.2.1 0), .int (iI (row))] (fun U => wu G S U)) (qR (fBr S row 0 (S 20 row.toNat).toNat)) 0 0 (fun _ => False) := by
  refine mt_of (by decide +kernel) (Nat.le_of_ble_eq_true rfl) ?_
  intro p e s m below meth c ls hadm hC hr hlk hex hw hl
  have hC : CallFix p m c b_cr_firstBar 4 s _ tws "ChannelRules" := hC
  have hl : lv_has ls 4 [(0, .ref (G.2.1 0)), (1, .int (iI (row)))] := hl
  have i20 := iv_20 hI row.toNat
  refine lv_iconst (v := iI 0) hC.1 hC.2.1 d_cr_firstBar_0 rfl ?_
  refine lv_istore_n (lv' := [(2, .int (iI (0))), (0, .ref (G.2.1 0)), (1, .int (iI (row)))]) hC.1 hC.2.1 d_cr_firstBar_1 rfl hl (by decide) rfl (fun ls hl => ?_)
  have loop_2 : ∀ (nn : Nat) (k : Nat) (x2 : Int), (S 20 row.toNat).toNat - k < nn → x2 = (k : Int) → (k : Int) ≤ S 20 row.toNat → fBr S row 0 (S 20 row.toNat).toNat = fBr S row k ((S 20 row.toNat).toNat - k) → ∀ (ls : Array Slot), lv_has ls 4 [(2, .int (iI (x2))), (0, .ref (G.2.1 0)), (1, .int (iI (row)))] → W p l e { frames := 4, cells := 0, slots := 0, locals := 104 } s m ([.ref (G.2.1 0), .int (iI (row))] : List Value).toArray below meth c s.heap [] 0 0 (MQ below (qR (fBr S row 0 (S 20 row.toNat).toNat)) ([.ref (G.2.1 0), .int (iI (row))] : List Value).toArray s 0 0 (fun _ => False)) (F0 m 2 ls []) := by
    intro nn
    induction nn with
    | zero => intros; omega
    | succ nn ih_2 =>
      intro k x2 hms_2 hx2 hv0 hv1 ls hl
      refine lv_iload_n hC.1 hC.2.1 d_cr_firstBar_2 rfl (lv_at hl 0 rfl) ?_
      refine lv_aload_n hC.1 hC.2.1 d_cr_firstBar_3 rfl (lv_at hl 1 rfl) ?_
      refine gf_cr_26 hC hw d_cr_firstBar_4 ?_
      refine gf_cr_104 hC hw d_cr_firstBar_7 ?_
      refine lv_iload_n hC.1 hC.2.1 d_cr_firstBar_10 rfl (lv_at hl 2 rfl) ?_
      refine ld_20 hC hw (by omega) (by omega) d_cr_firstBar_11 ?_
      have b_1 := iv_20 hI row.toNat
      refine ir_ge (tgt := 45) hC.1 hC.2.1 d_cr_firstBar_12 (by decide) ⟨by omega, by omega⟩ ⟨by omega, by omega⟩ (fun c_2 => ?_) (fun c_2 => ?_)
      · skip
        refine lv_iconst (v := iI 0) hC.1 hC.2.1 d_cr_firstBar_45 rfl ?_
        exact rt_R hC hr hlk (by rw [hv1, show (S 20 row.toNat).toNat - k = 0 by omega]; rfl) d_cr_firstBar_46
      · skip
        refine lv_aload_n hC.1 hC.2.1 d_cr_firstBar_15 rfl (lv_at hl 1 rfl) ?_
        refine lv_iload_n hC.1 hC.2.1 d_cr_firstBar_16 rfl (lv_at hl 2 rfl) ?_
        refine lv_iload_n hC.1 hC.2.1 d_cr_firstBar_17 rfl (lv_at hl 0 rfl) ?_
        refine go_R (ca_V (As := [.int (iI (row)), .int (iI (x2))]) (rest := []) hC hw (c_cr_barByPiece l G S row x2 hI (by omega) (by omega)) (cv_cr_230 hC rfl rfl (Nat.le_of_ble_eq_true rfl) (Nat.le_of_ble_eq_true rfl)) (by decide) rfl rfl rfl hl.1 rfl (Nat.le_of_ble_eq_true rfl) d_cr_firstBar_18 ⟨Nat.le_of_ble_eq_true rfl, Nat.le_of_ble_eq_true rfl⟩) ?_
        have r_3 := bPc_b S row x2
        refine lv_istore_n (lv' := [(3, .int (iI (bPc S row x2))), (2, .int (iI (x2))), (0, .ref (G.2.1 0)), (1, .int (iI (row)))]) hC.1 hC.2.1 d_cr_firstBar_21 rfl hl (by decide) rfl (fun ls hl => ?_)
        refine lv_iload_n hC.1 hC.2.1 d_cr_firstBar_22 rfl (lv_at hl 0 rfl) ?_
        refine ir_if_ne (tgt := 33) hC.1 hC.2.1 d_cr_firstBar_23 (by decide) ⟨by omega, by omega⟩ (fun c_4 => ?_) (fun c_4 => ?_)
        · skip
          refine lv_iload_n hC.1 hC.2.1 d_cr_firstBar_33 rfl (lv_at hl 0 rfl) ?_
          refine ir_if_eq (tgt := 39) hC.1 hC.2.1 d_cr_firstBar_34 (by decide) ⟨by omega, by omega⟩ (fun c_5 => ?_) (fun c_5 => ?_)
          · skip
            refine lv_iinc (v := iI (x2 + 1)) (lv' := [(2, .int (iI (x2 + 1))), (3, .int (iI (bPc S row x2))), (0, .ref (G.2.1 0)), (1, .int (iI (row)))]) hC.1 hC.2.1 d_cr_firstBar_39 hl (k := 1) rfl (iI_add _ _) (by decide) rfl (fun ls hl => ?_)
            refine lv_goto (tgt := 2) hC.1 hC.2.1 d_cr_firstBar_42 (by decide) ?_
            exact ih_2 (k + 1) _ (by omega) (by first | rfl | omega) (by omega) (by rw [hv1, fBr_s S row k _ (by omega), ← hx2, if_pos (by first | (simp [brr, c_2, c_4, c_5]; done) | omega)]) _ (lv_sub hl [0, 2, 3] rfl)
          · skip
            refine lv_iload_n hC.1 hC.2.1 d_cr_firstBar_37 rfl (lv_at hl 0 rfl) ?_
            exact rt_R hC hr hlk (by rw [hv1, fBr_s S row k _ (by omega), ← hx2, if_neg (by first | (simp [brr, c_2, c_4, c_5]; done) | omega)]; first | (simp [brr, c_2, c_4, c_5]; done) | omega) d_cr_firstBar_38
        · skip
          refine lv_aload_n hC.1 hC.2.1 d_cr_firstBar_26 rfl (lv_at hl 2 rfl) ?_
          refine lv_iload_n hC.1 hC.2.1 d_cr_firstBar_27 rfl (lv_at hl 3 rfl) ?_
          refine lv_iload_n hC.1 hC.2.1 d_cr_firstBar_28 rfl (lv_at hl 1 rfl) ?_
          refine go_R (ca_V (As := [.int (iI (row)), .int (iI (x2))]) (rest := []) hC hw (c_cr_barBySlots l G S row x2 hI (by omega) (by omega)) (cv_cr_233 hC rfl rfl (Nat.le_of_ble_eq_true rfl) (Nat.le_of_ble_eq_true rfl)) (by decide) rfl rfl rfl hl.1 rfl (Nat.le_of_ble_eq_true rfl) d_cr_firstBar_29 ⟨Nat.le_of_ble_eq_true rfl, Nat.le_of_ble_eq_true rfl⟩) ?_
          have r_6 := bSl_b S row x2 (S 3 0).toNat
          refine lv_istore_n (lv' := [(3, .int (iI (bSl S row x2 (S 3 0).toNat))), (2, .int (iI (x2))), (0, .ref (G.2.1 0)), (1, .int (iI (row)))]) hC.1 hC.2.1 d_cr_firstBar_32 rfl hl (by decide) rfl (fun ls hl => ?_)
          refine lv_iload_n hC.1 hC.2.1 d_cr_firstBar_33 rfl (lv_at hl 0 rfl) ?_
          refine ir_if_eq (tgt := 39) hC.1 hC.2.1 d_cr_firstBar_34 (by decide) ⟨by omega, by omega⟩ (fun c_7 => ?_) (fun c_7 => ?_)
          · skip
            refine lv_iinc (v := iI (x2 + 1)) (lv' := [(2, .int (iI (x2 + 1))), (3, .int (iI (bSl S row x2 (S 3 0).toNat))), (0, .ref (G.2.1 0)), (1, .int (iI (row)))]) hC.1 hC.2.1 d_cr_firstBar_39 hl (k := 1) rfl (iI_add _ _) (by decide) rfl (fun ls hl => ?_)
            refine lv_goto (tgt := 2) hC.1 hC.2.1 d_cr_firstBar_42 (by decide) ?_
            exact ih_2 (k + 1) _ (by omega) (by first | rfl | omega) (by omega) (by rw [hv1, fBr_s S row k _ (by omega), ← hx2, if_pos (by first | (simp [brr, c_2, c_4, c_7]; done) | omega)]) _ (lv_sub hl [0, 2, 3] rfl)
          · skip
            refine lv_iload_n hC.1 hC.2.1 d_cr_firstBar_37 rfl (lv_at hl 0 rfl) ?_
            exact rt_R hC hr hlk (by rw [hv1, fBr_s S row k _ (by omega), ← hx2, if_neg (by first | (simp [brr, c_2, c_4, c_7]; done) | omega)]; first | (simp [brr, c_2, c_4, c_7]; done) | omega) d_cr_firstBar_38
  exact loop_2 _ 0 _ (Nat.lt_succ_self _) (by first | rfl | omega) (by omega) rfl _ (lv_sub hl [0, 1, 2] rfl)
set_option maxHeartbeats 4000000 in
set_option maxRecDepth 100000 in
theorem c_cr_minutesToMorning (l : Launch) (G : Gt) (S : St) (t : Int) (ht : 0 ≤ t ∧ t ≤ 1000000) : Met l y_cr_minutesToMorning [.code y_cr_minutesToMorning b_cr_minutesToMorning 1 (some .int)] { frames := 1, cells := 0, slots := 0, locals := 22 } (va_Pc [.int (iI (t))] (fun U => wu G S U)) (qR ((300 - t) % 1440)) 0 0 (fun _ => False) := by
  refine mt_of (by decide +kernel) (Nat.le_of_ble_eq_true rfl) ?_
  intro p e s m below meth c ls hadm hC hr hlk hex hw hl
  have hC : CallFix p m c b_cr_minutesToMorning 1 s _ tws "ChannelRules" := hC
  have hl : lv_has ls 1 [(0, .int (iI (t)))] := hl
  refine lv_sipush (v := iI 300) hC.1 hC.2.1 d_cr_minutesToMorning_0 (by decide +kernel) ?_
  refine lv_iload_n hC.1 hC.2.1 d_cr_minutesToMorning_3 rfl (lv_at hl 0 rfl) ?_
  refine ir_sub hC.1 hC.2.1 d_cr_minutesToMorning_4 ?_
  refine lv_sipush (v := iI 1440) hC.1 hC.2.1 d_cr_minutesToMorning_5 (by decide +kernel) ?_
  refine go_R (ca_S (As := [.int (iI (300 - t)), .int (iI (1440))]) (rest := []) hC hw (c_fm l G S (300 - t) (by omega)) (cv_cr_282 hC rfl rfl (Nat.le_of_ble_eq_true rfl) (Nat.le_of_ble_eq_true rfl)) rfl hl.1 rfl (Nat.le_of_ble_eq_true rfl) d_cr_minutesToMorning_8 ⟨Nat.le_of_ble_eq_true rfl, Nat.le_of_ble_eq_true rfl⟩) ?_
  exact rt_R hC hr hlk rfl d_cr_minutesToMorning_11
set_option maxHeartbeats 4000000 in
set_option maxRecDepth 100000 in
theorem c_cr_planWaitByPiece (l : Launch) (G : Gt) (S : St) (i : Int) (hI : Inv S) (hi : 0 ≤ i ∧ i < 7) : Met l y_cr_planWaitByPiece [.code y_cr_planWaitByPiece b_cr_planWaitByPiece 5 (some .int)] { frames := 2, cells := 0, slots := 0, locals := 49 } (va_Pc [.ref (G.2.1 0), .int (iI (i))] (fun U => wu G S U)) (qR (pWp S i)) 0 0 (fun _ => False) := by
  refine mt_of (by decide +kernel) (Nat.le_of_ble_eq_true rfl) ?_
  intro p e s m below meth c ls hadm hC hr hlk hex hw hl
  have hC : CallFix p m c b_cr_planWaitByPiece 5 s _ tws "ChannelRules" := hC
  have hl : lv_has ls 5 [(0, .ref (G.2.1 0)), (1, .int (iI (i)))] := hl
  refine lv_aload_n hC.1 hC.2.1 d_cr_planWaitByPiece_0 rfl (lv_at hl 0 rfl) ?_
  refine lv_iconst (v := iI 0) hC.1 hC.2.1 d_cr_planWaitByPiece_1 rfl ?_
  refine lv_iload_n hC.1 hC.2.1 d_cr_planWaitByPiece_2 rfl (lv_at hl 1 rfl) ?_
  refine go_R (ca_V (As := [.int (iI (0)), .int (iI (i))]) (rest := []) hC hw (c_cr_isAgainstOneWay l G S 0 i hI (by omega) (by omega)) (cv_cr_236 hC rfl rfl (Nat.le_of_ble_eq_true rfl) (Nat.le_of_ble_eq_true rfl)) (by decide) rfl rfl rfl hl.1 rfl (Nat.le_of_ble_eq_true rfl) d_cr_planWaitByPiece_3 ⟨Nat.le_of_ble_eq_true rfl, Nat.le_of_ble_eq_true rfl⟩) ?_
  refine ir_bne (tgt := 18) hC d_cr_planWaitByPiece_6 (by decide) (fun c_1 => ?_) (fun c_1 => ?_)
  · skip
    refine ir_ldc hC 1000000 tw_388 (by decide +kernel) d_cr_planWaitByPiece_18 ?_
    exact rt_R hC hr hlk (by first | rfl | (simp [pWp, c_1]; done) | (simp [pWp, c_1]; omega) | (simp [pWp, c_1] <;> split <;> omega) | omega) d_cr_planWaitByPiece_20
  · skip
    refine lv_aload_n hC.1 hC.2.1 d_cr_planWaitByPiece_9 rfl (lv_at hl 0 rfl) ?_
    refine lv_iconst (v := iI 0) hC.1 hC.2.1 d_cr_planWaitByPiece_10 rfl ?_
    refine lv_iload_n hC.1 hC.2.1 d_cr_planWaitByPiece_11 rfl (lv_at hl 1 rfl) ?_
    refine go_R (ca_V (As := [.int (iI (0)), .int (iI (i))]) (rest := []) hC hw (c_cr_isBarredInWind l G S 0 i hI (by omega) (by omega)) (cv_cr_242 hC rfl rfl (Nat.le_of_ble_eq_true rfl) (Nat.le_of_ble_eq_true rfl)) (by decide) rfl rfl rfl hl.1 rfl (Nat.le_of_ble_eq_true rfl) d_cr_planWaitByPiece_12 ⟨Nat.le_of_ble_eq_true rfl, Nat.le_of_ble_eq_true rfl⟩) ?_
    refine ir_beq (tgt := 21) hC d_cr_planWaitByPiece_15 (by decide) (fun c_2 => ?_) (fun c_2 => ?_)
    · skip
      refine lv_aload_n hC.1 hC.2.1 d_cr_planWaitByPiece_21 rfl (lv_at hl 0 rfl) ?_
      refine gf_cr_26 hC hw d_cr_planWaitByPiece_22 ?_
      refine lv_iconst (v := iI 0) hC.1 hC.2.1 d_cr_planWaitByPiece_25 rfl ?_
      refine lv_iload_n hC.1 hC.2.1 d_cr_planWaitByPiece_26 rfl (lv_at hl 1 rfl) ?_
      refine go_R (ca_V (As := [.int (iI (0)), .int (iI (i))]) (rest := []) hC hw (c_ps_entersAt l G S 0 i hI (by omega) (by omega)) (cv_cr_169 hC rfl rfl (Nat.le_of_ble_eq_true rfl) (Nat.le_of_ble_eq_true rfl)) (by decide) rfl rfl rfl hl.1 rfl (Nat.le_of_ble_eq_true rfl) d_cr_planWaitByPiece_27 ⟨Nat.le_of_ble_eq_true rfl, Nat.le_of_ble_eq_true rfl⟩) ?_
      have r_3 := enA_b hI 0 i
      refine lv_istore_n (lv' := [(2, .int (iI (enA S 0 i))), (0, .ref (G.2.1 0)), (1, .int (iI (i)))]) hC.1 hC.2.1 d_cr_planWaitByPiece_30 rfl hl (by decide) rfl (fun ls hl => ?_)
      refine lv_aload_n hC.1 hC.2.1 d_cr_planWaitByPiece_31 rfl (lv_at hl 1 rfl) ?_
      refine gf_cr_26 hC hw d_cr_planWaitByPiece_32 ?_
      refine lv_iconst (v := iI 0) hC.1 hC.2.1 d_cr_planWaitByPiece_35 rfl ?_
      refine lv_iload_n hC.1 hC.2.1 d_cr_planWaitByPiece_36 rfl (lv_at hl 2 rfl) ?_
      refine go_R (ca_V (As := [.int (iI (0)), .int (iI (i))]) (rest := []) hC hw (c_ps_leavesAt l G S 0 i hI (by omega) (by omega)) (cv_cr_172 hC rfl rfl (Nat.le_of_ble_eq_true rfl) (Nat.le_of_ble_eq_true rfl)) (by decide) rfl rfl rfl hl.1 rfl (Nat.le_of_ble_eq_true rfl) d_cr_planWaitByPiece_37 ⟨Nat.le_of_ble_eq_true rfl, Nat.le_of_ble_eq_true rfl⟩) ?_
      have r_4 := lvA_b hI 0 i
      refine lv_istore_n (lv' := [(3, .int (iI (lvA S 0 i))), (2, .int (iI (enA S 0 i))), (0, .ref (G.2.1 0)), (1, .int (iI (i)))]) hC.1 hC.2.1 d_cr_planWaitByPiece_40 rfl hl (by decide) rfl (fun ls hl => ?_)
      refine lv_aload_n hC.1 hC.2.1 d_cr_planWaitByPiece_41 rfl (lv_at hl 2 rfl) ?_
      refine gf_cr_12 hC hw d_cr_planWaitByPiece_42 ?_
      refine lv_aload_n hC.1 hC.2.1 d_cr_planWaitByPiece_45 rfl (lv_at hl 2 rfl) ?_
      refine gf_cr_26 hC hw d_cr_planWaitByPiece_46 ?_
      refine lv_iconst (v := iI 0) hC.1 hC.2.1 d_cr_planWaitByPiece_49 rfl ?_
      refine lv_iload_n hC.1 hC.2.1 d_cr_planWaitByPiece_50 rfl (lv_at hl 3 rfl) ?_
      refine go_R (ca_V (As := [.int (iI (0)), .int (iI (i))]) (rest := [.ref (G.2.1 1)]) hC hw (c_ps_pieceOf l G S 0 i hI (by omega) (by omega)) (cv_cr_100 hC rfl rfl (Nat.le_of_ble_eq_true rfl) (Nat.le_of_ble_eq_true rfl)) (by decide) rfl rfl rfl hl.1 rfl (Nat.le_of_ble_eq_true rfl) d_cr_planWaitByPiece_51 ⟨Nat.le_of_ble_eq_true rfl, Nat.le_of_ble_eq_true rfl⟩) ?_
      have r_5 := pOf_b hI 0 i
      refine lv_iload_n hC.1 hC.2.1 d_cr_planWaitByPiece_54 rfl (lv_at hl 1 rfl) ?_
      refine lv_iload_n hC.1 hC.2.1 d_cr_planWaitByPiece_55 rfl (lv_at hl 0 rfl) ?_
      refine go_R (ca_V (As := [.int (iI (pOf S 0 i)), .int (iI (enA S 0 i)), .int (iI (lvA S 0 i))]) (rest := []) hC hw (c_pc_closedFor l G S (pOf S 0 i) (enA S 0 i) (lvA S 0 i) hI (by omega) (by omega) (by omega)) (cv_cr_245 hC rfl rfl (Nat.le_of_ble_eq_true rfl) (Nat.le_of_ble_eq_true rfl)) (by decide) rfl rfl rfl hl.1 rfl (Nat.le_of_ble_eq_true rfl) d_cr_planWaitByPiece_56 ⟨Nat.le_of_ble_eq_true rfl, Nat.le_of_ble_eq_true rfl⟩) ?_
      have r_6 := clF_b hI (pOf S 0 i) (enA S 0 i) (lvA S 0 i) (S 11 (pOf S 0 i).toNat).toNat
      refine lv_istore (lv' := [(4, .int (iI (clF S (pOf S 0 i) (enA S 0 i) (lvA S 0 i) (S 11 (pOf S 0 i).toNat).toNat))), (3, .int (iI (lvA S 0 i))), (2, .int (iI (enA S 0 i))), (0, .ref (G.2.1 0)), (1, .int (iI (i)))]) hC.1 hC.2.1 d_cr_planWaitByPiece_59 hl (by decide) rfl (fun ls hl => ?_)
      refine lv_iload hC.1 hC.2.1 d_cr_planWaitByPiece_61 (lv_at hl 0 rfl) ?_
      refine lv_aload_n hC.1 hC.2.1 d_cr_planWaitByPiece_63 rfl (lv_at hl 3 rfl) ?_
      refine lv_iconst (v := iI 0) hC.1 hC.2.1 d_cr_planWaitByPiece_64 rfl ?_
      refine lv_iload_n hC.1 hC.2.1 d_cr_planWaitByPiece_65 rfl (lv_at hl 4 rfl) ?_
      refine go_R (ca_V (As := [.int (iI (0)), .int (iI (i))]) (rest := [.int (iI (clF S (pOf S 0 i) (enA S 0 i) (lvA S 0 i) (S 11 (pOf S 0 i).toNat).toNat))]) hC hw (c_cr_isBarredAtNight l G S 0 i hI (by omega) (by omega)) (cv_cr_239 hC rfl rfl (Nat.le_of_ble_eq_true rfl) (Nat.le_of_ble_eq_true rfl)) (by decide) rfl rfl rfl hl.1 rfl (Nat.le_of_ble_eq_true rfl) d_cr_planWaitByPiece_66 ⟨Nat.le_of_ble_eq_true rfl, Nat.le_of_ble_eq_true rfl⟩) ?_
      refine ir_beq (tgt := 79) hC d_cr_planWaitByPiece_69 (by decide) (fun c_7 => ?_) (fun c_7 => ?_)
      · skip
        refine lv_iconst (v := iI 0) hC.1 hC.2.1 d_cr_planWaitByPiece_79 rfl ?_
        refine ir_max hC tw_484 tw_451 tw_11 tw_452 hl.1 (Nat.le_of_ble_eq_true rfl) (Nat.le_of_ble_eq_true rfl) (Nat.zero_le _) (Nat.zero_le _) ⟨by omega, by omega⟩ (by decide) d_cr_planWaitByPiece_80 ?_
        exact rt_R hC hr hlk (by first | rfl | (simp [pWp, c_1, c_2, c_7]; done) | (simp [pWp, c_1, c_2, c_7]; omega) | (simp [pWp, c_1, c_2, c_7] <;> split <;> omega) | omega) d_cr_planWaitByPiece_83
      · skip
        refine lv_iload_n hC.1 hC.2.1 d_cr_planWaitByPiece_72 rfl (lv_at hl 2 rfl) ?_
        refine go_R (ca_S (As := [.int (iI (enA S 0 i))]) (rest := [.int (iI (clF S (pOf S 0 i) (enA S 0 i) (lvA S 0 i) (S 11 (pOf S 0 i).toNat).toNat))]) hC hw (c_cr_minutesToMorning l G S (enA S 0 i) (by omega)) (cv_cr_279 hC rfl rfl (Nat.le_of_ble_eq_true rfl) (Nat.le_of_ble_eq_true rfl)) rfl hl.1 rfl (Nat.le_of_ble_eq_true rfl) d_cr_planWaitByPiece_73 ⟨Nat.le_of_ble_eq_true rfl, Nat.le_of_ble_eq_true rfl⟩) ?_
        have r_8 := mtm_b (enA S 0 i)
        refine lv_goto (tgt := 80) hC.1 hC.2.1 d_cr_planWaitByPiece_76 (by decide) ?_
        refine ir_max hC tw_484 tw_451 tw_11 tw_452 hl.1 (Nat.le_of_ble_eq_true rfl) (Nat.le_of_ble_eq_true rfl) (Nat.zero_le _) (Nat.zero_le _) ⟨by omega, by omega⟩ ⟨by omega, by omega⟩ d_cr_planWaitByPiece_80 ?_
        exact rt_R hC hr hlk (by first | rfl | (simp [pWp, c_1, c_2, c_7]; done) | (simp [pWp, c_1, c_2, c_7]; omega) | (simp [pWp, c_1, c_2, c_7] <;> split <;> omega) | omega) d_cr_planWaitByPiece_83
    · skip
      refine ir_ldc hC 1000000 tw_388 (by decide +kernel) d_cr_planWaitByPiece_18 ?_
      exact rt_R hC hr hlk (by first | rfl | (simp [pWp, c_1, c_2]; done) | (simp [pWp, c_1, c_2]; omega) | (simp [pWp, c_1, c_2] <;> split <;> omega) | omega) d_cr_planWaitByPiece_20
set_option maxHeartbeats 4000000 in
set_option maxRecDepth 100000 in
theorem c_cr_planWaitFor (l : Launch) (G : Gt) (S : St) (k : Int) (i : Int) (hI : Inv S) (hk : 0 ≤ k ∧ k ≤ 30) (hi : 0 ≤ i ∧ i < 7) : Met l y_cr_planWaitFor [.code y_cr_planWaitFor b_cr_planWaitFor 8 (some .int)] { frames := 3, cells := 0, slots := 0, locals := 79 } (va_Pc [.ref (G.2.1 0), .int (iI (k)), .int (iI (i))] (fun U => wu G S U)) (qR (pWf S k i)) 0 0 (fun _ => False) := by
  refine mt_of (by decide +kernel) (Nat.le_of_ble_eq_true rfl) ?_
  intro p e s m below meth c ls hadm hC hr hlk hex hw hl
  have hC : CallFix p m c b_cr_planWaitFor 8 s _ tws "ChannelRules" := hC
  have hl : lv_has ls 8 [(0, .ref (G.2.1 0)), (1, .int (iI (k))), (2, .int (iI (i)))] := hl
  refine lv_aload_n hC.1 hC.2.1 d_cr_planWaitFor_0 rfl (lv_at hl 0 rfl) ?_
  refine lv_iload_n hC.1 hC.2.1 d_cr_planWaitFor_1 rfl (lv_at hl 1 rfl) ?_
  refine lv_iconst (v := iI 0) hC.1 hC.2.1 d_cr_planWaitFor_2 rfl ?_
  refine lv_iload_n hC.1 hC.2.1 d_cr_planWaitFor_3 rfl (lv_at hl 2 rfl) ?_
  refine go_R (ca_V (As := [.int (iI (k)), .int (iI (0)), .int (iI (i))]) (rest := []) hC hw (c_cr_conflictWith l G S k 0 i hI (by omega) (by omega) (by omega)) (cv_cr_257 hC rfl rfl (Nat.le_of_ble_eq_true rfl) (Nat.le_of_ble_eq_true rfl)) (by decide) rfl rfl rfl hl.1 rfl (Nat.le_of_ble_eq_true rfl) d_cr_planWaitFor_4 ⟨Nat.le_of_ble_eq_true rfl, Nat.le_of_ble_eq_true rfl⟩) ?_
  have r_1 := cfw_b S k 0 i
  refine lv_istore_n (lv' := [(3, .int (iI (cfw S k 0 i))), (0, .ref (G.2.1 0)), (1, .int (iI (k))), (2, .int (iI (i)))]) hC.1 hC.2.1 d_cr_planWaitFor_7 rfl hl (by decide) rfl (fun ls hl => ?_)
  refine lv_aload_n hC.1 hC.2.1 d_cr_planWaitFor_8 rfl (lv_at hl 1 rfl) ?_
  refine gf_cr_26 hC hw d_cr_planWaitFor_9 ?_
  refine lv_iload_n hC.1 hC.2.1 d_cr_planWaitFor_12 rfl (lv_at hl 2 rfl) ?_
  refine lv_aload_n hC.1 hC.2.1 d_cr_planWaitFor_13 rfl (lv_at hl 1 rfl) ?_
  refine gf_cr_26 hC hw d_cr_planWaitFor_14 ?_
  refine lv_iconst (v := iI 0) hC.1 hC.2.1 d_cr_planWaitFor_17 rfl ?_
  refine lv_iload_n hC.1 hC.2.1 d_cr_planWaitFor_18 rfl (lv_at hl 3 rfl) ?_
  refine go_R (ca_V (As := [.int (iI (0)), .int (iI (i))]) (rest := [.int (iI (k)), .ref (G.2.1 3)]) hC hw (c_ps_pieceOf l G S 0 i hI (by omega) (by omega)) (cv_cr_100 hC rfl rfl (Nat.le_of_ble_eq_true rfl) (Nat.le_of_ble_eq_true rfl)) (by decide) rfl rfl rfl hl.1 rfl (Nat.le_of_ble_eq_true rfl) d_cr_planWaitFor_19 ⟨Nat.le_of_ble_eq_true rfl, Nat.le_of_ble_eq_true rfl⟩) ?_
  have r_2 := pOf_b hI 0 i
  refine go_R (ca_V (As := [.int (iI (k)), .int (iI (pOf S 0 i))]) (rest := []) hC hw (c_ps_stayOn l G S k (pOf S 0 i) hI (by omega) (by omega)) (cv_cr_260 hC rfl rfl (Nat.le_of_ble_eq_true rfl) (Nat.le_of_ble_eq_true rfl)) (by decide) rfl rfl rfl hl.1 rfl (Nat.le_of_ble_eq_true rfl) d_cr_planWaitFor_22 ⟨Nat.le_of_ble_eq_true rfl, Nat.le_of_ble_eq_true rfl⟩) ?_
  have r_3 := stO_b hI k (pOf S 0 i)
  refine lv_istore (lv' := [(4, .int (iI (stO S k (pOf S 0 i)))), (3, .int (iI (cfw S k 0 i))), (0, .ref (G.2.1 0)), (1, .int (iI (k))), (2, .int (iI (i)))]) hC.1 hC.2.1 d_cr_planWaitFor_25 hl (by decide) rfl (fun ls hl => ?_)
  refine lv_iload_n hC.1 hC.2.1 d_cr_planWaitFor_27 rfl (lv_at hl 1 rfl) ?_
  refine ir_if_eq (tgt := 37) hC.1 hC.2.1 d_cr_planWaitFor_28 (by decide) ⟨by omega, by omega⟩ (fun c_4 => ?_) (fun c_4 => ?_)
  · skip
    refine lv_iconst (v := iI 0) hC.1 hC.2.1 d_cr_planWaitFor_37 rfl ?_
    exact rt_R hC hr hlk (by first | rfl | (simp [pWf, c_4]; done) | (simp [pWf, c_4]; omega) | (simp [pWf, c_4] <;> split <;> omega) | omega) d_cr_planWaitFor_38
  · skip
    refine lv_iload hC.1 hC.2.1 d_cr_planWaitFor_31 (lv_at hl 0 rfl) ?_
    refine lv_iconst (v := iI (-1)) hC.1 hC.2.1 d_cr_planWaitFor_33 rfl ?_
    refine ir_ne (tgt := 39) hC.1 hC.2.1 d_cr_planWaitFor_34 (by decide) ⟨by omega, by omega⟩ (by decide) (fun c_5 => ?_) (fun c_5 => ?_)
    · skip
      refine lv_aload_n hC.1 hC.2.1 d_cr_planWaitFor_39 rfl (lv_at hl 2 rfl) ?_
      refine gf_cr_26 hC hw d_cr_planWaitFor_40 ?_
      refine lv_iconst (v := iI 0) hC.1 hC.2.1 d_cr_planWaitFor_43 rfl ?_
      refine lv_iload_n hC.1 hC.2.1 d_cr_planWaitFor_44 rfl (lv_at hl 4 rfl) ?_
      refine go_R (ca_V (As := [.int (iI (0)), .int (iI (i))]) (rest := []) hC hw (c_ps_entersAt l G S 0 i hI (by omega) (by omega)) (cv_cr_169 hC rfl rfl (Nat.le_of_ble_eq_true rfl) (Nat.le_of_ble_eq_true rfl)) (by decide) rfl rfl rfl hl.1 rfl (Nat.le_of_ble_eq_true rfl) d_cr_planWaitFor_45 ⟨Nat.le_of_ble_eq_true rfl, Nat.le_of_ble_eq_true rfl⟩) ?_
      have r_6 := enA_b hI 0 i
      refine lv_istore (lv' := [(5, .int (iI (enA S 0 i))), (4, .int (iI (stO S k (pOf S 0 i)))), (3, .int (iI (cfw S k 0 i))), (0, .ref (G.2.1 0)), (1, .int (iI (k))), (2, .int (iI (i)))]) hC.1 hC.2.1 d_cr_planWaitFor_48 hl (by decide) rfl (fun ls hl => ?_)
      refine lv_iload_n hC.1 hC.2.1 d_cr_planWaitFor_50 rfl (lv_at hl 2 rfl) ?_
      refine lv_bipush (v := iI 7) hC.1 hC.2.1 d_cr_planWaitFor_51 (by decide +kernel) ?_
      refine ir_eq (tgt := 70) hC.1 hC.2.1 d_cr_planWaitFor_53 (by decide) ⟨by omega, by omega⟩ (by decide) (fun c_7 => ?_) (fun c_7 => ?_)
      · skip
        refine lv_aload_n hC.1 hC.2.1 d_cr_planWaitFor_70 rfl (lv_at hl 3 rfl) ?_
        refine gf_cr_26 hC hw d_cr_planWaitFor_71 ?_
        refine lv_iload_n hC.1 hC.2.1 d_cr_planWaitFor_74 rfl (lv_at hl 4 rfl) ?_
        refine lv_iload hC.1 hC.2.1 d_cr_planWaitFor_75 (lv_at hl 1 rfl) ?_
        refine go_R (ca_V (As := [.int (iI (k)), .int (iI (stO S k (pOf S 0 i)))]) (rest := []) hC hw (c_ps_entersAt l G S k (stO S k (pOf S 0 i)) hI (by omega) (by omega)) (cv_cr_169 hC rfl rfl (Nat.le_of_ble_eq_true rfl) (Nat.le_of_ble_eq_true rfl)) (by decide) rfl rfl rfl hl.1 rfl (Nat.le_of_ble_eq_true rfl) d_cr_planWaitFor_77 ⟨Nat.le_of_ble_eq_true rfl, Nat.le_of_ble_eq_true rfl⟩) ?_
        have r_8 := enA_b hI k (stO S k (pOf S 0 i))
        refine lv_iload hC.1 hC.2.1 d_cr_planWaitFor_80 (lv_at hl 0 rfl) ?_
        refine ir_sub hC.1 hC.2.1 d_cr_planWaitFor_82 ?_
        refine lv_istore (lv' := [(6, .int (iI ((enA S k (stO S k (pOf S 0 i))) - (enA S 0 i)))), (5, .int (iI (enA S 0 i))), (4, .int (iI (stO S k (pOf S 0 i)))), (3, .int (iI (cfw S k 0 i))), (0, .ref (G.2.1 0)), (1, .int (iI (k))), (2, .int (iI (i)))]) hC.1 hC.2.1 d_cr_planWaitFor_83 hl (by decide) rfl (fun ls hl => ?_)
        refine lv_aload_n hC.1 hC.2.1 d_cr_planWaitFor_85 rfl (lv_at hl 4 rfl) ?_
        refine gf_cr_26 hC hw d_cr_planWaitFor_86 ?_
        refine lv_iload_n hC.1 hC.2.1 d_cr_planWaitFor_89 rfl (lv_at hl 5 rfl) ?_
        refine lv_iload hC.1 hC.2.1 d_cr_planWaitFor_90 (lv_at hl 2 rfl) ?_
        refine go_R (ca_V (As := [.int (iI (k)), .int (iI (stO S k (pOf S 0 i)))]) (rest := []) hC hw (c_ps_leavesAt l G S k (stO S k (pOf S 0 i)) hI (by omega) (by omega)) (cv_cr_172 hC rfl rfl (Nat.le_of_ble_eq_true rfl) (Nat.le_of_ble_eq_true rfl)) (by decide) rfl rfl rfl hl.1 rfl (Nat.le_of_ble_eq_true rfl) d_cr_planWaitFor_92 ⟨Nat.le_of_ble_eq_true rfl, Nat.le_of_ble_eq_true rfl⟩) ?_
        have r_9 := lvA_b hI k (stO S k (pOf S 0 i))
        refine lv_aload_n hC.1 hC.2.1 d_cr_planWaitFor_95 rfl (lv_at hl 4 rfl) ?_
        refine gf_cr_26 hC hw d_cr_planWaitFor_96 ?_
        refine lv_iconst (v := iI 0) hC.1 hC.2.1 d_cr_planWaitFor_99 rfl ?_
        refine lv_iload_n hC.1 hC.2.1 d_cr_planWaitFor_100 rfl (lv_at hl 6 rfl) ?_
        refine go_R (ca_V (As := [.int (iI (0)), .int (iI (i))]) (rest := [.int (iI (lvA S k (stO S k (pOf S 0 i))))]) hC hw (c_ps_leavesAt l G S 0 i hI (by omega) (by omega)) (cv_cr_172 hC rfl rfl (Nat.le_of_ble_eq_true rfl) (Nat.le_of_ble_eq_true rfl)) (by decide) rfl rfl rfl hl.1 rfl (Nat.le_of_ble_eq_true rfl) d_cr_planWaitFor_101 ⟨Nat.le_of_ble_eq_true rfl, Nat.le_of_ble_eq_true rfl⟩) ?_
        have r_10 := lvA_b hI 0 i
        refine ir_sub hC.1 hC.2.1 d_cr_planWaitFor_104 ?_
        refine lv_istore (lv' := [(7, .int (iI ((lvA S k (stO S k (pOf S 0 i))) - (lvA S 0 i)))), (6, .int (iI ((enA S k (stO S k (pOf S 0 i))) - (enA S 0 i)))), (5, .int (iI (enA S 0 i))), (4, .int (iI (stO S k (pOf S 0 i)))), (3, .int (iI (cfw S k 0 i))), (0, .ref (G.2.1 0)), (1, .int (iI (k))), (2, .int (iI (i)))]) hC.1 hC.2.1 d_cr_planWaitFor_105 hl (by decide) rfl (fun ls hl => ?_)
        refine lv_iload hC.1 hC.2.1 d_cr_planWaitFor_107 (lv_at hl 1 rfl) ?_
        refine lv_iload hC.1 hC.2.1 d_cr_planWaitFor_109 (lv_at hl 0 rfl) ?_
        refine ir_max hC tw_484 tw_451 tw_11 tw_452 hl.1 (Nat.le_of_ble_eq_true rfl) (Nat.le_of_ble_eq_true rfl) (Nat.zero_le _) (Nat.zero_le _) ⟨by omega, by omega⟩ ⟨by omega, by omega⟩ d_cr_planWaitFor_111 ?_
        refine lv_iconst (v := iI 1) hC.1 hC.2.1 d_cr_planWaitFor_114 rfl ?_
        refine ir_add hC.1 hC.2.1 d_cr_planWaitFor_115 ?_
        exact rt_R hC hr hlk (by first | rfl | (simp [pWf, c_4, c_5, c_7]; done) | (simp [pWf, c_4, c_5, c_7]; omega) | (simp [pWf, c_4, c_5, c_7] <;> split <;> omega) | omega) d_cr_planWaitFor_116
      · skip
        refine lv_aload_n hC.1 hC.2.1 d_cr_planWaitFor_56 rfl (lv_at hl 3 rfl) ?_
        refine gf_cr_26 hC hw d_cr_planWaitFor_57 ?_
        refine lv_iload_n hC.1 hC.2.1 d_cr_planWaitFor_60 rfl (lv_at hl 4 rfl) ?_
        refine lv_iload hC.1 hC.2.1 d_cr_planWaitFor_61 (lv_at hl 1 rfl) ?_
        refine go_R (ca_V (As := [.int (iI (k)), .int (iI (stO S k (pOf S 0 i)))]) (rest := []) hC hw (c_ps_leavesAt l G S k (stO S k (pOf S 0 i)) hI (by omega) (by omega)) (cv_cr_172 hC rfl rfl (Nat.le_of_ble_eq_true rfl) (Nat.le_of_ble_eq_true rfl)) (by decide) rfl rfl rfl hl.1 rfl (Nat.le_of_ble_eq_true rfl) d_cr_planWaitFor_63 ⟨Nat.le_of_ble_eq_true rfl, Nat.le_of_ble_eq_true rfl⟩) ?_
        have r_11 := lvA_b hI k (stO S k (pOf S 0 i))
        refine lv_iload hC.1 hC.2.1 d_cr_planWaitFor_66 (lv_at hl 0 rfl) ?_
        refine ir_sub hC.1 hC.2.1 d_cr_planWaitFor_68 ?_
        exact rt_R hC hr hlk (by first | rfl | (simp [pWf, c_4, c_5, c_7]; done) | (simp [pWf, c_4, c_5, c_7]; omega) | (simp [pWf, c_4, c_5, c_7] <;> split <;> omega) | omega) d_cr_planWaitFor_69
    · skip
      refine lv_iconst (v := iI 0) hC.1 hC.2.1 d_cr_planWaitFor_37 rfl ?_
      exact rt_R hC hr hlk (by first | rfl | (simp [pWf, c_4, c_5]; done) | (simp [pWf, c_4, c_5]; omega) | (simp [pWf, c_4, c_5] <;> split <;> omega) | omega) d_cr_planWaitFor_38
set_option maxHeartbeats 4000000 in
set_option maxRecDepth 100000 in
theorem c_cr_planWaitBySlots (l : Launch) (G : Gt) (S : St) (i : Int) (hI : Inv S) (hi : 0 ≤ i ∧ i < 7) : Met l y_cr_planWaitBySlots [.code y_cr_planWaitBySlots b_cr_planWaitBySlots 4 (some .int)] { frames := 4, cells := 0, slots := 0, locals := 106 } (va_Pc [.ref (G.2.1 0), .int (iI (i))] (fun U => wu G S U)) (qR (pWs S i (S 3 0).toNat)) 0 0 (fun _ => False) := by
  refine mt_of (by decide +kernel) (Nat.le_of_ble_eq_true rfl) ?_
  intro p e s m below meth c ls hadm hC hr hlk hex hw hl
  have hC : CallFix p m c b_cr_planWaitBySlots 4 s _ tws "ChannelRules" := hC
  have hl : lv_has ls 4 [(0, .ref (G.2.1 0)), (1, .int (iI (i)))] := hl
  have i3 := iv_3 hI 0
  refine lv_iconst (v := iI 0) hC.1 hC.2.1 d_cr_planWaitBySlots_0 rfl ?_
  refine lv_istore_n (lv' := [(2, .int (iI (0))), (0, .ref (G.2.1 0)), (1, .int (iI (i)))]) hC.1 hC.2.1 d_cr_planWaitBySlots_1 rfl hl (by decide) rfl (fun ls hl => ?_)
  refine lv_iconst (v := iI 1) hC.1 hC.2.1 d_cr_planWaitBySlots_2 rfl ?_
  refine lv_istore_n (lv' := [(3, .int (iI (1))), (2, .int (iI (0))), (0, .ref (G.2.1 0)), (1, .int (iI (i)))]) hC.1 hC.2.1 d_cr_planWaitBySlots_3 rfl hl (by decide) rfl (fun ls hl => ?_)
  have loop_4 : ∀ (nn : Nat) (k : Nat) (x2 : Int) (x3 : Int), (S 3 0).toNat - k < nn → x2 = pWs S i k → x3 = (k : Int) + 1 → (k : Int) ≤ S 3 0 → ∀ (ls : Array Slot), lv_has ls 4 [(3, .int (iI (x3))), (2, .int (iI (x2))), (0, .ref (G.2.1 0)), (1, .int (iI (i)))] → W p l e { frames := 4, cells := 0, slots := 0, locals := 106 } s m ([.ref (G.2.1 0), .int (iI (i))] : List Value).toArray below meth c s.heap [] 0 0 (MQ below (qR (pWs S i (S 3 0).toNat)) ([.ref (G.2.1 0), .int (iI (i))] : List Value).toArray s 0 0 (fun _ => False)) (F0 m 4 ls []) := by
    intro nn
    induction nn with
    | zero => intros; omega
    | succ nn ih_4 =>
      intro k x2 x3 hms_4 hx2 hx3 hv0 ls hl
      have bk := pWs_b hI i k
      refine lv_iload_n hC.1 hC.2.1 d_cr_planWaitBySlots_4 rfl (lv_at hl 0 rfl) ?_
      refine lv_aload_n hC.1 hC.2.1 d_cr_planWaitBySlots_5 rfl (lv_at hl 2 rfl) ?_
      refine gf_cr_26 hC hw d_cr_planWaitBySlots_6 ?_
      refine gf_cr_110 hC hw d_cr_planWaitBySlots_9 ?_
      have b_1 := iv_3 hI 0
      refine ir_gt (tgt := 44) hC.1 hC.2.1 d_cr_planWaitBySlots_12 (by decide) ⟨by omega, by omega⟩ ⟨by omega, by omega⟩ (fun c_2 => ?_) (fun c_2 => ?_)
      · skip
        refine lv_iload_n hC.1 hC.2.1 d_cr_planWaitBySlots_44 rfl (lv_at hl 1 rfl) ?_
        exact rt_R hC hr hlk (by rw [hx2, show (S 3 0).toNat = k by omega]) d_cr_planWaitBySlots_45
      · skip
        refine lv_aload_n hC.1 hC.2.1 d_cr_planWaitBySlots_15 rfl (lv_at hl 2 rfl) ?_
        refine gf_cr_26 hC hw d_cr_planWaitBySlots_16 ?_
        refine gf_cr_142 hC hw d_cr_planWaitBySlots_19 ?_
        refine lv_iload_n hC.1 hC.2.1 d_cr_planWaitBySlots_22 rfl (lv_at hl 0 rfl) ?_
        refine ld_17 hC hw (by omega) (by omega) d_cr_planWaitBySlots_23 ?_
        have b_3 := iv_17 hI x3.toNat
        refine ir_if_eq (tgt := 38) hC.1 hC.2.1 d_cr_planWaitBySlots_24 (by decide) ⟨by omega, by omega⟩ (fun c_4 => ?_) (fun c_4 => ?_)
        · skip
          refine lv_iinc (v := iI (x3 + 1)) (lv' := [(3, .int (iI (x3 + 1))), (2, .int (iI (x2))), (0, .ref (G.2.1 0)), (1, .int (iI (i)))]) hC.1 hC.2.1 d_cr_planWaitBySlots_38 hl (k := 0) rfl (iI_add _ _) (by decide) rfl (fun ls hl => ?_)
          refine lv_goto (tgt := 4) hC.1 hC.2.1 d_cr_planWaitBySlots_41 (by decide) ?_
          exact ih_4 (k + 1) _ _ (by omega) (by have g := pWs_s S i k; simp only [hx3] at *; first | (simp [g, *]; done) | (simp [g, *]; omega) | (rw [g]; (repeat' split) <;> first | omega | (simp_all; done) | (simp_all; omega))) (by first | rfl | omega) (by omega) _ (lv_sub hl [0, 1, 2, 3] rfl)
        · skip
          refine lv_iload_n hC.1 hC.2.1 d_cr_planWaitBySlots_27 rfl (lv_at hl 1 rfl) ?_
          refine lv_aload_n hC.1 hC.2.1 d_cr_planWaitBySlots_28 rfl (lv_at hl 2 rfl) ?_
          refine lv_iload_n hC.1 hC.2.1 d_cr_planWaitBySlots_29 rfl (lv_at hl 0 rfl) ?_
          refine lv_iload_n hC.1 hC.2.1 d_cr_planWaitBySlots_30 rfl (lv_at hl 3 rfl) ?_
          refine go_R (ca_V (As := [.int (iI (x3)), .int (iI (i))]) (rest := [.int (iI (x2))]) hC hw (c_cr_planWaitFor l G S x3 i hI (by omega) (by omega)) (cv_cr_285 hC rfl rfl (Nat.le_of_ble_eq_true rfl) (Nat.le_of_ble_eq_true rfl)) (by decide) rfl rfl rfl hl.1 rfl (Nat.le_of_ble_eq_true rfl) d_cr_planWaitBySlots_31 ⟨Nat.le_of_ble_eq_true rfl, Nat.le_of_ble_eq_true rfl⟩) ?_
          have r_5 := pWf_b hI x3 i
          refine ir_max hC tw_484 tw_451 tw_11 tw_452 hl.1 (Nat.le_of_ble_eq_true rfl) (Nat.le_of_ble_eq_true rfl) (Nat.zero_le _) (Nat.zero_le _) ⟨by omega, by omega⟩ ⟨by omega, by omega⟩ d_cr_planWaitBySlots_34 ?_
          refine lv_istore_n (lv' := [(2, .int (iI (max x2 (pWf S x3 i)))), (3, .int (iI (x3))), (0, .ref (G.2.1 0)), (1, .int (iI (i)))]) hC.1 hC.2.1 d_cr_planWaitBySlots_37 rfl hl (by decide) rfl (fun ls hl => ?_)
          refine lv_iinc (v := iI (x3 + 1)) (lv' := [(3, .int (iI (x3 + 1))), (2, .int (iI (max x2 (pWf S x3 i)))), (0, .ref (G.2.1 0)), (1, .int (iI (i)))]) hC.1 hC.2.1 d_cr_planWaitBySlots_38 hl (k := 1) rfl (iI_add _ _) (by decide) rfl (fun ls hl => ?_)
          refine lv_goto (tgt := 4) hC.1 hC.2.1 d_cr_planWaitBySlots_41 (by decide) ?_
          exact ih_4 (k + 1) _ _ (by omega) (by have g := pWs_s S i k; simp only [hx3] at *; first | (simp [g, *]; done) | (simp [g, *]; omega) | (rw [g]; (repeat' split) <;> first | omega | (simp_all; done) | (simp_all; omega))) (by first | rfl | omega) (by omega) _ (lv_sub hl [0, 1, 2, 3] rfl)
  exact loop_4 _ 0 _ _ (Nat.lt_succ_self _) (by first | rfl | omega) (by first | rfl | omega) (by omega) _ (lv_sub hl [0, 1, 2, 3] rfl)
set_option maxHeartbeats 4000000 in
set_option maxRecDepth 100000 in
theorem c_cr_planWait (l : Launch) (G : Gt) (S : St) (hI : Inv S) : Met l y_cr_planWait [.code y_cr_planWait b_cr_planWait 3 (some .int)] { frames := 5, cells := 0, slots := 0, locals := 129 } (va_Pc [.ref (G.2.1 0)] (fun U => wu G S U)) (qR (pWt S (S 20 0).toNat)) 0 0 (fun _ => False) := by
  refine mt_of (by decide +kernel) (Nat.le_of_ble_eq_true rfl) ?_
  intro p e s m below meth c ls hadm hC hr hlk hex hw hl
  have hC : CallFix p m c b_cr_planWait 3 s _ tws "ChannelRules" := hC
  have hl : lv_has ls 3 [(0, .ref (G.2.1 0))] := hl
  have i20 := iv_20 hI 0
  refine lv_iconst (v := iI 0) hC.1 hC.2.1 d_cr_planWait_0 rfl ?_
  refine lv_istore_n (lv' := [(1, .int (iI (0))), (0, .ref (G.2.1 0))]) hC.1 hC.2.1 d_cr_planWait_1 rfl hl (by decide) rfl (fun ls hl => ?_)
  refine lv_iconst (v := iI 0) hC.1 hC.2.1 d_cr_planWait_2 rfl ?_
  refine lv_istore_n (lv' := [(2, .int (iI (0))), (1, .int (iI (0))), (0, .ref (G.2.1 0))]) hC.1 hC.2.1 d_cr_planWait_3 rfl hl (by decide) rfl (fun ls hl => ?_)
  have loop_4 : ∀ (nn : Nat) (k : Nat) (x1 : Int) (x2 : Int), (S 20 0).toNat - k < nn → x1 = pWt S k → x2 = (k : Int) → (k : Int) ≤ S 20 0 → ∀ (ls : Array Slot), lv_has ls 3 [(2, .int (iI (x2))), (1, .int (iI (x1))), (0, .ref (G.2.1 0))] → W p l e { frames := 5, cells := 0, slots := 0, locals := 129 } s m ([.ref (G.2.1 0)] : List Value).toArray below meth c s.heap [] 0 0 (MQ below (qR (pWt S (S 20 0).toNat)) ([.ref (G.2.1 0)] : List Value).toArray s 0 0 (fun _ => False)) (F0 m 4 ls []) := by
    intro nn
    induction nn with
    | zero => intros; omega
    | succ nn ih_4 =>
      intro k x1 x2 hms_4 hx1 hx2 hv0 ls hl
      have bk := pWt_b hI k
      refine lv_iload_n hC.1 hC.2.1 d_cr_planWait_4 rfl (lv_at hl 0 rfl) ?_
      refine lv_aload_n hC.1 hC.2.1 d_cr_planWait_5 rfl (lv_at hl 2 rfl) ?_
      refine gf_cr_26 hC hw d_cr_planWait_6 ?_
      refine gf_cr_104 hC hw d_cr_planWait_9 ?_
      refine lv_iconst (v := iI 0) hC.1 hC.2.1 d_cr_planWait_12 rfl ?_
      refine lc_20 0 hC hw (by decide) d_cr_planWait_13 ?_
      have b_1 := iv_20 hI 0
      refine ir_ge (tgt := 41) hC.1 hC.2.1 d_cr_planWait_14 (by decide) ⟨by omega, by omega⟩ ⟨by omega, by omega⟩ (fun c_2 => ?_) (fun c_2 => ?_)
      · skip
        refine lv_iload_n hC.1 hC.2.1 d_cr_planWait_41 rfl (lv_at hl 1 rfl) ?_
        exact rt_R hC hr hlk (by rw [hx1, show (S 20 0).toNat = k by omega]) d_cr_planWait_42
      · skip
        refine lv_iload_n hC.1 hC.2.1 d_cr_planWait_17 rfl (lv_at hl 1 rfl) ?_
        refine lv_aload_n hC.1 hC.2.1 d_cr_planWait_18 rfl (lv_at hl 2 rfl) ?_
        refine lv_iload_n hC.1 hC.2.1 d_cr_planWait_19 rfl (lv_at hl 0 rfl) ?_
        refine go_R (ca_V (As := [.int (iI (x2))]) (rest := [.int (iI (x1))]) hC hw (c_cr_planWaitByPiece l G S x2 hI (by omega)) (cv_cr_270 hC rfl rfl (Nat.le_of_ble_eq_true rfl) (Nat.le_of_ble_eq_true rfl)) (by decide) rfl rfl rfl hl.1 rfl (Nat.le_of_ble_eq_true rfl) d_cr_planWait_20 ⟨Nat.le_of_ble_eq_true rfl, Nat.le_of_ble_eq_true rfl⟩) ?_
        have r_3 := pWp_b hI x2
        refine lv_aload_n hC.1 hC.2.1 d_cr_planWait_23 rfl (lv_at hl 2 rfl) ?_
        refine lv_iload_n hC.1 hC.2.1 d_cr_planWait_24 rfl (lv_at hl 0 rfl) ?_
        refine go_R (ca_V (As := [.int (iI (x2))]) (rest := [.int (iI (pWp S x2)), .int (iI (x1))]) hC hw (c_cr_planWaitBySlots l G S x2 hI (by omega)) (cv_cr_273 hC rfl rfl (Nat.le_of_ble_eq_true rfl) (Nat.le_of_ble_eq_true rfl)) (by decide) rfl rfl rfl hl.1 rfl (Nat.le_of_ble_eq_true rfl) d_cr_planWait_25 ⟨Nat.le_of_ble_eq_true rfl, Nat.le_of_ble_eq_true rfl⟩) ?_
        have r_4 := pWs_b hI x2 (S 3 0).toNat
        refine ir_max hC tw_484 tw_451 tw_11 tw_452 hl.1 (Nat.le_of_ble_eq_true rfl) (Nat.le_of_ble_eq_true rfl) (Nat.zero_le _) (Nat.zero_le _) ⟨by omega, by omega⟩ ⟨by omega, by omega⟩ d_cr_planWait_28 ?_
        refine ir_max hC tw_484 tw_451 tw_11 tw_452 hl.1 (Nat.le_of_ble_eq_true rfl) (Nat.le_of_ble_eq_true rfl) (Nat.zero_le _) (Nat.zero_le _) ⟨by omega, by omega⟩ ⟨by omega, by omega⟩ d_cr_planWait_31 ?_
        refine lv_istore_n (lv' := [(1, .int (iI (max x1 (max (pWp S x2) (pWs S x2 (S 3 0).toNat))))), (2, .int (iI (x2))), (0, .ref (G.2.1 0))]) hC.1 hC.2.1 d_cr_planWait_34 rfl hl (by decide) rfl (fun ls hl => ?_)
        refine lv_iinc (v := iI (x2 + 1)) (lv' := [(2, .int (iI (x2 + 1))), (1, .int (iI (max x1 (max (pWp S x2) (pWs S x2 (S 3 0).toNat))))), (0, .ref (G.2.1 0))]) hC.1 hC.2.1 d_cr_planWait_35 hl (k := 1) rfl (iI_add _ _) (by decide) rfl (fun ls hl => ?_)
        refine lv_goto (tgt := 4) hC.1 hC.2.1 d_cr_planWait_38 (by decide) ?_
        exact ih_4 (k + 1) _ _ (by omega) (by have g := pWt_s S k; simp only [hx2] at *; first | (simp [g, *]; done) | (simp [g, *]; omega) | (rw [g]; (repeat' split) <;> first | omega | (simp_all; done) | (simp_all; omega))) (by first | rfl | omega) (by omega) _ (lv_sub hl [0, 1, 2] rfl)
  exact loop_4 _ 0 _ _ (Nat.lt_succ_self _) (by first | rfl | omega) (by first | rfl | omega) (by omega) _ (lv_sub hl [0, 1, 2] rfl)
set_option maxHeartbeats 4000000 in
set_option maxRecDepth 100000 in
theorem c_cr_nextPiece (l : Launch) (G : Gt) (S : St) (sh : Int) (t : Int) (hI : Inv S) (hsh : 0 ≤ sh ∧ sh < 12) (ht : 0 ≤ t ∧ t ≤ 7) : Met l y_cr_nextPiece [.code y_cr_nextPiece b_cr_nextPiece 5 (some .int)] { frames := 1, cells := 0, slots := 0, locals := 23 } (va_Pc [.ref (G.2.1 0), .int (iI (sh)), .int (iI (t))] (fun U => wu G S U)) (qR (nxP S sh t)) 0 0 (fun _ => False) := by
  refine mt_of (by decide +kernel) (Nat.le_of_ble_eq_true rfl) ?_
  intro p e s m below meth c ls hadm hC hr hlk hex hw hl
  have hC : CallFix p m c b_cr_nextPiece 5 s _ tws "ChannelRules" := hC
  have hl : lv_has ls 5 [(0, .ref (G.2.1 0)), (1, .int (iI (sh))), (2, .int (iI (t)))] := hl
  have i1 := iv_1 hI 0
  refine lv_aload_n hC.1 hC.2.1 d_cr_nextPiece_0 rfl (lv_at hl 0 rfl) ?_
  refine gf_cr_30 hC hw d_cr_nextPiece_1 ?_
  refine lv_iload_n hC.1 hC.2.1 d_cr_nextPiece_4 rfl (lv_at hl 2 rfl) ?_
  refine ld_4 hC hw (by omega) (by omega) d_cr_nextPiece_5 ?_
  have b_1 := iv_4 hI t.toNat
  refine ir_ldc hC 1000000 tw_388 (by decide +kernel) d_cr_nextPiece_6 ?_
  refine ir_lt (tgt := 13) hC.1 hC.2.1 d_cr_nextPiece_8 (by decide) ⟨by omega, by omega⟩ (by decide) (fun c_2 => ?_) (fun c_2 => ?_)
  · skip
    refine lv_iconst (v := iI 0) hC.1 hC.2.1 d_cr_nextPiece_13 rfl ?_
    refine lv_istore_n (lv' := [(3, .int (iI (0))), (0, .ref (G.2.1 0)), (1, .int (iI (sh))), (2, .int (iI (t)))]) hC.1 hC.2.1 d_cr_nextPiece_14 rfl hl (by decide) rfl (fun ls hl => ?_)
    have loop_15 : ∀ (nn : Nat) (k : Nat) (x3 : Int), (S 1 0).toNat - k < nn → x3 = (k : Int) → (k : Int) ≤ S 1 0 → nxP S sh t = nxF S sh t k ((S 1 0).toNat - k) → ∀ (ls : Array Slot), lv_has ls 5 [(3, .int (iI (x3))), (0, .ref (G.2.1 0)), (1, .int (iI (sh))), (2, .int (iI (t)))] → W p l e { frames := 1, cells := 0, slots := 0, locals := 23 } s m ([.ref (G.2.1 0), .int (iI (sh)), .int (iI (t))] : List Value).toArray below meth c s.heap [] 0 0 (MQ below (qR (nxP S sh t)) ([.ref (G.2.1 0), .int (iI (sh)), .int (iI (t))] : List Value).toArray s 0 0 (fun _ => False)) (F0 m 15 ls []) := by
      intro nn
      induction nn with
      | zero => intros; omega
      | succ nn ih_15 =>
        intro k x3 hms_15 hx3 hv0 hv1 ls hl
        refine lv_iload_n hC.1 hC.2.1 d_cr_nextPiece_15 rfl (lv_at hl 0 rfl) ?_
        refine lv_aload_n hC.1 hC.2.1 d_cr_nextPiece_16 rfl (lv_at hl 1 rfl) ?_
        refine gf_cr_12 hC hw d_cr_nextPiece_17 ?_
        refine gf_cr_62 hC hw d_cr_nextPiece_20 ?_
        have b_3 := iv_1 hI 0
        refine ir_ge (tgt := 83) hC.1 hC.2.1 d_cr_nextPiece_23 (by decide) ⟨by omega, by omega⟩ ⟨by omega, by omega⟩ (fun c_4 => ?_) (fun c_4 => ?_)
        · skip
          refine lv_iconst (v := iI (-1)) hC.1 hC.2.1 d_cr_nextPiece_83 rfl ?_
          exact rt_R hC hr hlk (by rw [hv1, show (S 1 0).toNat - k = 0 by omega]; rfl) d_cr_nextPiece_84
        · skip
          refine lv_aload_n hC.1 hC.2.1 d_cr_nextPiece_26 rfl (lv_at hl 1 rfl) ?_
          refine gf_cr_12 hC hw d_cr_nextPiece_27 ?_
          refine lv_iload_n hC.1 hC.2.1 d_cr_nextPiece_30 rfl (lv_at hl 0 rfl) ?_
          refine lv_iload_n hC.1 hC.2.1 d_cr_nextPiece_31 rfl (lv_at hl 3 rfl) ?_
          refine go_R (ca_V (As := [.int (iI (x3)), .int (iI (t))]) (rest := []) hC hw (c_pc_otherEnd l G S x3 t hI (by omega) (by omega)) (cv_cr_207 hC rfl rfl (Nat.le_of_ble_eq_true rfl) (Nat.le_of_ble_eq_true rfl)) (by decide) rfl rfl rfl hl.1 rfl (Nat.le_of_ble_eq_true rfl) d_cr_nextPiece_32 ⟨Nat.le_of_ble_eq_true rfl, Nat.le_of_ble_eq_true rfl⟩) ?_
          have r_5 := oEnd_b hI x3 t
          refine lv_istore (lv' := [(4, .int (iI (oEnd S x3 t))), (3, .int (iI (x3))), (0, .ref (G.2.1 0)), (1, .int (iI (sh))), (2, .int (iI (t)))]) hC.1 hC.2.1 d_cr_nextPiece_35 hl (by decide) rfl (fun ls hl => ?_)
          refine lv_iload hC.1 hC.2.1 d_cr_nextPiece_37 (lv_at hl 0 rfl) ?_
          refine lv_iconst (v := iI (-1)) hC.1 hC.2.1 d_cr_nextPiece_39 rfl ?_
          refine ir_eq (tgt := 77) hC.1 hC.2.1 d_cr_nextPiece_40 (by decide) ⟨by omega, by omega⟩ (by decide) (fun c_6 => ?_) (fun c_6 => ?_)
          · skip
            refine lv_iinc (v := iI (x3 + 1)) (lv' := [(3, .int (iI (x3 + 1))), (4, .int (iI (oEnd S x3 t))), (0, .ref (G.2.1 0)), (1, .int (iI (sh))), (2, .int (iI (t)))]) hC.1 hC.2.1 d_cr_nextPiece_77 hl (k := 1) rfl (iI_add _ _) (by decide) rfl (fun ls hl => ?_)
            refine lv_goto (tgt := 15) hC.1 hC.2.1 d_cr_nextPiece_80 (by decide) ?_
            exact ih_15 (k + 1) _ (by omega) (by first | rfl | omega) (by omega) (by rw [hv1, nxF_s S sh t k _ (by omega), ← hx3, if_neg (by simp [c_2, c_4, c_6])]) _ (lv_sub hl [0, 2, 3, 4] rfl)
          · skip
            refine lv_aload_n hC.1 hC.2.1 d_cr_nextPiece_43 rfl (lv_at hl 2 rfl) ?_
            refine lv_iload_n hC.1 hC.2.1 d_cr_nextPiece_44 rfl (lv_at hl 3 rfl) ?_
            refine lv_iload_n hC.1 hC.2.1 d_cr_nextPiece_45 rfl (lv_at hl 1 rfl) ?_
            refine go_R (ca_V (As := [.int (iI (sh)), .int (iI (x3))]) (rest := []) hC hw (c_cr_fits l G S sh x3 hI (by omega) (by omega)) (cv_cr_211 hC rfl rfl (Nat.le_of_ble_eq_true rfl) (Nat.le_of_ble_eq_true rfl)) (by decide) rfl rfl rfl hl.1 rfl (Nat.le_of_ble_eq_true rfl) d_cr_nextPiece_46 ⟨Nat.le_of_ble_eq_true rfl, Nat.le_of_ble_eq_true rfl⟩) ?_
            refine ir_beq (tgt := 77) hC d_cr_nextPiece_49 (by decide) (fun c_7 => ?_) (fun c_7 => ?_)
            · skip
              refine lv_iinc (v := iI (x3 + 1)) (lv' := [(3, .int (iI (x3 + 1))), (4, .int (iI (oEnd S x3 t))), (0, .ref (G.2.1 0)), (1, .int (iI (sh))), (2, .int (iI (t)))]) hC.1 hC.2.1 d_cr_nextPiece_77 hl (k := 1) rfl (iI_add _ _) (by decide) rfl (fun ls hl => ?_)
              refine lv_goto (tgt := 15) hC.1 hC.2.1 d_cr_nextPiece_80 (by decide) ?_
              exact ih_15 (k + 1) _ (by omega) (by first | rfl | omega) (by omega) (by rw [hv1, nxF_s S sh t k _ (by omega), ← hx3, if_neg (by simp [c_2, c_4, c_6, c_7])]) _ (lv_sub hl [0, 2, 3, 4] rfl)
            · skip
              refine lv_aload_n hC.1 hC.2.1 d_cr_nextPiece_52 rfl (lv_at hl 2 rfl) ?_
              refine gf_cr_30 hC hw d_cr_nextPiece_53 ?_
              refine lv_iload_n hC.1 hC.2.1 d_cr_nextPiece_56 rfl (lv_at hl 4 rfl) ?_
              refine ld_4 hC hw (by omega) (by omega) d_cr_nextPiece_57 ?_
              have b_8 := iv_4 hI t.toNat
              refine lv_aload_n hC.1 hC.2.1 d_cr_nextPiece_58 rfl (lv_at hl 2 rfl) ?_
              refine lv_iload_n hC.1 hC.2.1 d_cr_nextPiece_59 rfl (lv_at hl 3 rfl) ?_
              refine lv_iload_n hC.1 hC.2.1 d_cr_nextPiece_60 rfl (lv_at hl 1 rfl) ?_
              refine go_R (ca_V (As := [.int (iI (sh)), .int (iI (x3))]) (rest := [.int (iI (S 4 t.toNat))]) hC hw (c_cr_travelTime l G S sh x3 hI (by omega) (by omega)) (cv_cr_200 hC rfl rfl (Nat.le_of_ble_eq_true rfl) (Nat.le_of_ble_eq_true rfl)) (by decide) rfl rfl rfl hl.1 rfl (Nat.le_of_ble_eq_true rfl) d_cr_nextPiece_61 ⟨Nat.le_of_ble_eq_true rfl, Nat.le_of_ble_eq_true rfl⟩) ?_
              have r_9 := tTm_b hI sh x3
              refine lv_aload_n hC.1 hC.2.1 d_cr_nextPiece_64 rfl (lv_at hl 2 rfl) ?_
              refine gf_cr_30 hC hw d_cr_nextPiece_65 ?_
              refine lv_iload hC.1 hC.2.1 d_cr_nextPiece_68 (lv_at hl 0 rfl) ?_
              refine ld_4 hC hw (by omega) (by omega) d_cr_nextPiece_70 ?_
              have b_10 := iv_4 hI ((oEnd S x3 t).toNat)
              refine ir_add hC.1 hC.2.1 d_cr_nextPiece_71 ?_
              refine ir_ne (tgt := 77) hC.1 hC.2.1 d_cr_nextPiece_72 (by decide) ⟨by omega, by omega⟩ ⟨by omega, by omega⟩ (fun c_11 => ?_) (fun c_11 => ?_)
              · skip
                refine lv_iinc (v := iI (x3 + 1)) (lv' := [(3, .int (iI (x3 + 1))), (4, .int (iI (oEnd S x3 t))), (0, .ref (G.2.1 0)), (1, .int (iI (sh))), (2, .int (iI (t)))]) hC.1 hC.2.1 d_cr_nextPiece_77 hl (k := 1) rfl (iI_add _ _) (by decide) rfl (fun ls hl => ?_)
                refine lv_goto (tgt := 15) hC.1 hC.2.1 d_cr_nextPiece_80 (by decide) ?_
                exact ih_15 (k + 1) _ (by omega) (by first | rfl | omega) (by omega) (by rw [hv1, nxF_s S sh t k _ (by omega), ← hx3, if_neg (by simp [c_2, c_4, c_6, c_7, c_11])]) _ (lv_sub hl [0, 2, 3, 4] rfl)
              · skip
                refine lv_iload_n hC.1 hC.2.1 d_cr_nextPiece_75 rfl (lv_at hl 1 rfl) ?_
                exact rt_R hC hr hlk (by rw [hv1, nxF_s S sh t k _ (by omega), ← hx3, if_pos (by simp [c_2, c_4, c_6, c_7, c_11])]) d_cr_nextPiece_76
    exact loop_15 _ 0 _ (Nat.lt_succ_self _) (by first | rfl | omega) (by omega) (by unfold nxP; rw [if_neg (by omega)]; rfl) _ (lv_sub hl [0, 1, 2, 3] rfl)
  · skip
    refine lv_iconst (v := iI (-1)) hC.1 hC.2.1 d_cr_nextPiece_11 rfl ?_
    exact rt_R hC hr hlk (by unfold nxP; rw [if_pos (by omega)]) d_cr_nextPiece_12

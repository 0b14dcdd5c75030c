/-! the class, as functions of the state: closing, conflicts -/
def eCn (T : St) (q a b x : Int) : Bool := !decide (T 17 x.toNat = 0) && (!decide (stO T x q = -1) && shm a b (enA T x (stO T x q)) (lvA T x (stO T x q)))
def eSt (S : St) (q a b : Int) : Nat → St
  | 0 => S
  | k + 1 => if eCn (eSt S q a b k) q a b ((k : Int) + 1) = true then s_up (eSt S q a b k) 17 ((k : Int) + 1).toNat 0 else eSt S q a b k
theorem eSt_s (S : St) (q a b : Int) (k : Nat) : eSt S q a b (k + 1) = if eCn (eSt S q a b k) q a b ((k : Int) + 1) = true then s_up (eSt S q a b k) 17 ((k : Int) + 1).toNat 0 else eSt S q a b k := rfl
def eCt (S : St) (q a b : Int) : Nat → Int
  | 0 => 0
  | k + 1 => if eCn (eSt S q a b k) q a b ((k : Int) + 1) = true then eCt S q a b k + 1 else eCt S q a b k
theorem eCt_s (S : St) (q a b : Int) (k : Nat) : eCt S q a b (k + 1) = if eCn (eSt S q a b k) q a b ((k : Int) + 1) = true then eCt S q a b k + 1 else eCt S q a b k := rfl
theorem eSt_ne (S : St) (q a b : Int) (k : Nat) {c j : Nat} (h : c ≠ 17) : eSt S q a b k c j = S c j := by
  induction k with
  | zero => rfl
  | succ k ih =>
    rw [eSt_s]
    split
    · rw [s_up_cell h]; exact ih
    · exact ih
theorem eSt_I {S : St} (h : Inv S) (q a b : Int) (k : Nat) : Inv (eSt S q a b k) := by
  induction k with
  | zero => exact h
  | succ k ih =>
    rw [eSt_s]
    split
    · exact Inv.up (q := 17) ih (by decide) (show (0 : Int) ≤ 1 by decide)
    · exact ih
def fcS (T : St) (a b i : Int) : St := s_up (s_up (s_up (s_up T 5 0 a) 5 1 b) 5 2 (pOf (s_up (s_up T 5 0 a) 5 1 b) a i)) 5 3 (cfw T b a i)
def spP (S : St) (a b n w : Int) : Nat → St × Int
  | 0 => (S, n)
  | k + 1 => if cfw (spP S a b n w k).1 b a (k : Int) = 0 then spP S a b n w k else if (spP S a b n w k).2 = w then (fcS (spP S a b n w k).1 a b (k : Int), (spP S a b n w k).2 + 1) else ((spP S a b n w k).1, (spP S a b n w k).2 + 1)
theorem spP_s (S : St) (a b n w : Int) (k : Nat) : spP S a b n w (k + 1) = if cfw (spP S a b n w k).1 b a (k : Int) = 0 then spP S a b n w k else if (spP S a b n w k).2 = w then (fcS (spP S a b n w k).1 a b (k : Int), (spP S a b n w k).2 + 1) else ((spP S a b n w k).1, (spP S a b n w k).2 + 1) := rfl
theorem spP_n (S : St) (a b n w : Int) (k : Nat) : n ≤ (spP S a b n w k).2 ∧ (spP S a b n w k).2 ≤ n + k := by
  induction k with
  | zero => exact ⟨Int.le_refl _, by simp [spP]⟩
  | succ k ih =>
    rw [spP_s]
    split
    · omega
    · split <;> (simp only []; omega)
theorem fcS_ne (T : St) (a b i : Int) {c : Nat} (h : c ≠ 5) : fcS T a b i c = T c := by
  unfold fcS
  rw [s_up_cell h, s_up_cell h, s_up_cell h, s_up_cell h]
theorem fcS_I {T : St} (h : Inv T) {a b : Int} (ha : 0 ≤ a ∧ a ≤ 30) (hb : 0 ≤ b ∧ b ≤ 30) (i : Int) : Inv (fcS T a b i) := by
  have a1 := Inv.up (q := 5) (i := 0) (x := a) h (by omega) (show _ ≤ 30 by omega)
  have a2 := Inv.up (q := 5) (i := 1) (x := b) a1 (by omega) (show _ ≤ 30 by omega)
  have h3 := pOf_b a2 a i
  have a3 := Inv.up (q := 5) (i := 2) (x := pOf (s_up (s_up T 5 0 a) 5 1 b) a i) a2 (by omega) (show _ ≤ 30 by omega)
  have h4 := cfw_b T b a i
  exact Inv.up (q := 5) (i := 3) a3 (by omega) (show _ ≤ 30 by omega)
theorem spP_ne (S : St) (a b n w : Int) (k : Nat) {c : Nat} (h : c ≠ 5) : (spP S a b n w k).1 c = S c := by
  induction k with
  | zero => rfl
  | succ k ih =>
    rw [spP_s]
    split
    · exact ih
    · split
      · rw [← ih]; exact fcS_ne _ _ _ _ h
      · exact ih
theorem spP_I {S : St} (h : Inv S) {a b n w : Int} (ha : 0 ≤ a ∧ a ≤ 30) (hb : 0 ≤ b ∧ b ≤ 30) (k : Nat) : Inv (spP S a b n w k).1 := by
  induction k with
  | zero => exact h
  | succ k ih =>
    rw [spP_s]
    split
    · exact ih
    · split
      · exact fcS_I ih ha hb _
      · exact ih
def skI (w x : Int) (P : St × Int) : Nat → St × Int
  | 0 => P
  | j + 1 => if (skI w x P j).1 17 x.toNat = 0 then skI w x P j else if (skI w x P j).1 17 (x + 1 + (j : Int)).toNat = 0 then skI w x P j else spP (skI w x P j).1 x (x + 1 + (j : Int)) (skI w x P j).2 w ((skI w x P j).1 20 x.toNat).toNat
theorem skI_s (w x : Int) (P : St × Int) (j : Nat) : skI w x P (j + 1) = if (skI w x P j).1 17 x.toNat = 0 then skI w x P j else if (skI w x P j).1 17 (x + 1 + (j : Int)).toNat = 0 then skI w x P j else spP (skI w x P j).1 x (x + 1 + (j : Int)) (skI w x P j).2 w ((skI w x P j).1 20 x.toNat).toNat := rfl
theorem skI_ne (w x : Int) (P : St × Int) (j : Nat) {c : Nat} (h : c ≠ 5) : (skI w x P j).1 c = P.1 c := by
  induction j with
  | zero => rfl
  | succ j ih =>
    rw [skI_s]
    split
    · exact ih
    · split
      · exact ih
      · rw [spP_ne _ _ _ _ _ _ h, ih]
theorem skI_I {P : St × Int} (h : Inv P.1) (w x : Int) (hx : 0 ≤ x ∧ x ≤ 30) (j : Nat) (hj : x + (j : Int) ≤ 30) : Inv (skI w x P j).1 := by
  induction j with
  | zero => exact h
  | succ j ih =>
    have ih := ih (by omega)
    rw [skI_s]
    split
    · exact ih
    · split
      · exact ih
      · exact spP_I ih hx (by omega) _
theorem skI_n {P : St × Int} (h : Inv P.1) (w x : Int) (hx : 0 ≤ x ∧ x ≤ 30) (j : Nat) (hj : x + (j : Int) ≤ 30) : P.2 ≤ (skI w x P j).2 ∧ (skI w x P j).2 ≤ P.2 + 7 * (j : Int) := by
  induction j with
  | zero => exact ⟨Int.le_refl _, by simp [skI]⟩
  | succ j ih =>
    have ih := ih (by omega)
    have hI := skI_I h w x hx j (by omega)
    have h20 := iv_20 hI x.toNat
    have h2 := spP_n (skI w x P j).1 x (x + 1 + (j : Int)) (skI w x P j).2 w ((skI w x P j).1 20 x.toNat).toNat
    rw [skI_s]
    split
    · omega
    · split <;> omega
def skO (S : St) (w : Int) : Nat → St × Int
  | 0 => (S, 0)
  | k + 1 => skI w ((k : Int) + 1) (skO S w k) (S 3 0 - ((k : Int) + 1)).toNat
theorem skO_s (S : St) (w : Int) (k : Nat) : skO S w (k + 1) = skI w ((k : Int) + 1) (skO S w k) (S 3 0 - ((k : Int) + 1)).toNat := rfl
theorem skO_ne (S : St) (w : Int) (k : Nat) {c : Nat} (h : c ≠ 5) : (skO S w k).1 c = S c := by
  induction k with
  | zero => rfl
  | succ k ih => rw [skO_s, skI_ne _ _ _ _ h, ih]
theorem skO_I {S : St} (h : Inv S) (w : Int) (k : Nat) (hk : (k : Int) ≤ S 3 0) : Inv (skO S w k).1 := by
  have h3 := iv_3 h 0
  induction k with
  | zero => exact h
  | succ k ih => exact skI_I (ih (by omega)) w _ (by omega) _ (by omega)
theorem skO_n {S : St} (h : Inv S) (w : Int) (k : Nat) (hk : (k : Int) ≤ S 3 0) : 0 ≤ (skO S w k).2 ∧ (skO S w k).2 ≤ 210 * (k : Int) := by
  have h3 := iv_3 h 0
  induction k with
  | zero => exact ⟨Int.le_refl _, by simp [skO]⟩
  | succ k ih =>
    have ih := ih (by omega)
    have h1 := skI_n (skO_I h w k (by omega)) w ((k : Int) + 1) (by omega) (S 3 0 - ((k : Int) + 1)).toNat (by omega)
    rw [skO_s]
    omega
set_option maxHeartbeats 4000000 in
set_option maxRecDepth 100000 in
theorem c_cr_endSlotsOn (l : Launch) (G : Gt) (S : St) (q : Int) (a : Int) (b : Int) (hI : Inv S) (hq : 0 ≤ q ∧ q < 12) (ha : 0 ≤ a ∧ a ≤ 100000) (hb : 0 ≤ b ∧ b ≤ 100000) : Met l y_cr_endSlotsOn [.code y_cr_endSlotsOn b_cr_endSlotsOn 7 (some .int)] { frames := 1, cells := 0, slots := 0, locals := 23 } (va_Pc [.ref (G.2.1 0), .int (iI (q)), .int (iI (a)), .int (iI (b))] (fun U => wu G S U)) (qW G (eSt S q a b (S 3 0).toNat) (eCt S q a b (S 3 0).toNat)) 0 0 (gA G) := by
  refine mt_of (by decide +kernel) (Nat.le_of_ble_eq_true rfl) ?_
  intro p e s m below meth c ls hadm hC hr hlk hex hw hl
  have hC : CallFix p m c b_cr_endSlotsOn 7 s _ tws "ChannelRules" := hC
  have hl : lv_has ls 7 [(0, .ref (G.2.1 0)), (1, .int (iI (q))), (2, .int (iI (a))), (3, .int (iI (b)))] := hl
  have i3 := iv_3 hI 0
  refine lv_iconst (v := iI 0) hC.1 hC.2.1 d_cr_endSlotsOn_0 rfl ?_
  refine lv_istore (lv' := [(4, .int (iI (0))), (0, .ref (G.2.1 0)), (1, .int (iI (q))), (2, .int (iI (a))), (3, .int (iI (b)))]) hC.1 hC.2.1 d_cr_endSlotsOn_1 hl (by decide) rfl (fun ls hl => ?_)
  refine lv_iconst (v := iI 1) hC.1 hC.2.1 d_cr_endSlotsOn_3 rfl ?_
  refine lv_istore (lv' := [(5, .int (iI (1))), (4, .int (iI (0))), (0, .ref (G.2.1 0)), (1, .int (iI (q))), (2, .int (iI (a))), (3, .int (iI (b)))]) hC.1 hC.2.1 d_cr_endSlotsOn_4 hl (by decide) rfl (fun ls hl => ?_)
  have loop_6 : ∀ (nn : Nat) (k : Nat) (x4 : Int) (x5 : Int), (S 3 0).toNat - k < nn → x4 = eCt S q a b k → x5 = (k : Int) + 1 → (k : Int) ≤ S 3 0 → ∀ (H : Heap) (locs : List Loc) (ls : Array Slot), wh G (eSt S q a b k) s H locs → lv_has ls 7 [(5, .int (iI (x5))), (4, .int (iI (x4))), (0, .ref (G.2.1 0)), (1, .int (iI (q))), (2, .int (iI (a))), (3, .int (iI (b)))] → W p l e { frames := 1, cells := 0, slots := 0, locals := 23 } s m ([.ref (G.2.1 0), .int (iI (q)), .int (iI (a)), .int (iI (b))] : List Value).toArray below meth c H locs 0 0 (MQ below (qW G (eSt S q a b (S 3 0).toNat) (eCt S q a b (S 3 0).toNat)) ([.ref (G.2.1 0), .int (iI (q)), .int (iI (a)), .int (iI (b))] : List Value).toArray s 0 0 (gA G)) (F0 m 6 ls []) := by
    intro nn
    induction nn with
    | zero => intros; omega
    | succ nn ih_6 =>
      intro k x4 x5 hms_6 hx4 hx5 hv0 H locs ls hw hl
      have e3 : eSt S q a b k 3 0 = S 3 0 := eSt_ne S q a b k (by decide)
      refine lv_iload hC.1 hC.2.1 d_cr_endSlotsOn_6 (lv_at hl 0 rfl) ?_
      refine lv_aload_n hC.1 hC.2.1 d_cr_endSlotsOn_8 rfl (lv_at hl 2 rfl) ?_
      refine gf_cr_26 hC hw d_cr_endSlotsOn_9 ?_
      refine gf_cr_110 hC hw d_cr_endSlotsOn_12 ?_
      have b_1 := iv_3 (eSt_I hI q a b k) 0
      refine ir_gt (tgt := 99) hC.1 hC.2.1 d_cr_endSlotsOn_15 (by decide) ⟨by omega, by omega⟩ ⟨by omega, by omega⟩ (fun c_2 => ?_) (fun c_2 => ?_)
      · skip
        refine lv_iload hC.1 hC.2.1 d_cr_endSlotsOn_99 (lv_at hl 1 rfl) ?_
        exact rt_W hC hr hlk hw (by rw [hx4, show (S 3 0).toNat = k by omega]) (by rw [show (S 3 0).toNat = k by omega]) d_cr_endSlotsOn_101
      · skip
        refine lv_aload_n hC.1 hC.2.1 d_cr_endSlotsOn_18 rfl (lv_at hl 2 rfl) ?_
        refine gf_cr_26 hC hw d_cr_endSlotsOn_19 ?_
        refine lv_iload hC.1 hC.2.1 d_cr_endSlotsOn_22 (lv_at hl 0 rfl) ?_
        refine lv_iload_n hC.1 hC.2.1 d_cr_endSlotsOn_24 rfl (lv_at hl 3 rfl) ?_
        refine go_R (ca_V (As := [.int (iI (x5)), .int (iI (q))]) (rest := []) hC hw (c_ps_stayOn l G (eSt S q a b k) x5 q (eSt_I hI q a b k) (by omega) (by omega)) (cv_cr_260 hC rfl rfl (Nat.le_of_ble_eq_true rfl) (Nat.le_of_ble_eq_true rfl)) (by decide) rfl rfl rfl hl.1 rfl (Nat.le_of_ble_eq_true rfl) d_cr_endSlotsOn_25 ⟨Nat.le_of_ble_eq_true rfl, Nat.le_of_ble_eq_true rfl⟩) ?_
        have r_3 := stO_b (eSt_I hI q a b k) x5 q
        refine lv_istore (lv' := [(6, .int (iI (stO (eSt S q a b k) x5 q))), (5, .int (iI (x5))), (4, .int (iI (x4))), (0, .ref (G.2.1 0)), (1, .int (iI (q))), (2, .int (iI (a))), (3, .int (iI (b)))]) hC.1 hC.2.1 d_cr_endSlotsOn_28 hl (by decide) rfl (fun ls hl => ?_)
        refine lv_aload_n hC.1 hC.2.1 d_cr_endSlotsOn_30 rfl (lv_at hl 3 rfl) ?_
        refine gf_cr_26 hC hw d_cr_endSlotsOn_31 ?_
        refine gf_cr_142 hC hw d_cr_endSlotsOn_34 ?_
        refine lv_iload hC.1 hC.2.1 d_cr_endSlotsOn_37 (lv_at hl 1 rfl) ?_
        refine ld_17 hC hw (by omega) (by omega) d_cr_endSlotsOn_39 ?_
        have b_4 := iv_17 (eSt_I hI q a b k) x5.toNat
        refine ir_if_eq (tgt := 93) hC.1 hC.2.1 d_cr_endSlotsOn_40 (by decide) ⟨by omega, by omega⟩ (fun c_5 => ?_) (fun c_5 => ?_)
        · skip
          refine lv_iinc (v := iI (x5 + 1)) (lv' := [(5, .int (iI (x5 + 1))), (6, .int (iI (stO (eSt S q a b k) x5 q))), (4, .int (iI (x4))), (0, .ref (G.2.1 0)), (1, .int (iI (q))), (2, .int (iI (a))), (3, .int (iI (b)))]) hC.1 hC.2.1 d_cr_endSlotsOn_93 hl (k := 1) rfl (iI_add _ _) (by decide) rfl (fun ls hl => ?_)
          refine lv_goto (tgt := 6) hC.1 hC.2.1 d_cr_endSlotsOn_96 (by decide) ?_
          exact ih_6 (k + 1) _ _ (by omega) (by rw [eCt_s, eCn, ← hx5, ← hx4]; simp [c_2, c_5]) (by first | rfl | omega) (by omega) _ _ _ (by have q : eSt S q a b (k + 1) = eSt S q a b k := (by rw [eSt_s, eCn, ← hx5]; simp [c_2, c_5]); rw [q]; exact hw) (lv_sub hl [0, 2, 3, 4, 5, 6] rfl)
        · skip
          refine lv_iload hC.1 hC.2.1 d_cr_endSlotsOn_43 (lv_at hl 0 rfl) ?_
          refine lv_iconst (v := iI (-1)) hC.1 hC.2.1 d_cr_endSlotsOn_45 rfl ?_
          refine ir_eq (tgt := 93) hC.1 hC.2.1 d_cr_endSlotsOn_46 (by decide) ⟨by omega, by omega⟩ (by decide) (fun c_6 => ?_) (fun c_6 => ?_)
          · skip
            refine lv_iinc (v := iI (x5 + 1)) (lv' := [(5, .int (iI (x5 + 1))), (6, .int (iI (stO (eSt S q a b k) x5 q))), (4, .int (iI (x4))), (0, .ref (G.2.1 0)), (1, .int (iI (q))), (2, .int (iI (a))), (3, .int (iI (b)))]) hC.1 hC.2.1 d_cr_endSlotsOn_93 hl (k := 1) rfl (iI_add _ _) (by decide) rfl (fun ls hl => ?_)
            refine lv_goto (tgt := 6) hC.1 hC.2.1 d_cr_endSlotsOn_96 (by decide) ?_
            exact ih_6 (k + 1) _ _ (by omega) (by rw [eCt_s, eCn, ← hx5, ← hx4]; simp [c_2, c_5, c_6]) (by first | rfl | omega) (by omega) _ _ _ (by have q : eSt S q a b (k + 1) = eSt S q a b k := (by rw [eSt_s, eCn, ← hx5]; simp [c_2, c_5, c_6]); rw [q]; exact hw) (lv_sub hl [0, 2, 3, 4, 5, 6] rfl)
          · skip
            refine lv_iload_n hC.1 hC.2.1 d_cr_endSlotsOn_49 rfl (lv_at hl 5 rfl) ?_
            refine lv_iload_n hC.1 hC.2.1 d_cr_endSlotsOn_50 rfl (lv_at hl 6 rfl) ?_
            refine lv_aload_n hC.1 hC.2.1 d_cr_endSlotsOn_51 rfl (lv_at hl 3 rfl) ?_
            refine gf_cr_26 hC hw d_cr_endSlotsOn_52 ?_
            refine lv_iload hC.1 hC.2.1 d_cr_endSlotsOn_55 (lv_at hl 1 rfl) ?_
            refine lv_iload hC.1 hC.2.1 d_cr_endSlotsOn_57 (lv_at hl 0 rfl) ?_
            refine go_R (ca_V (As := [.int (iI (x5)), .int (iI (stO (eSt S q a b k) x5 q))]) (rest := [.int (iI (b)), .int (iI (a))]) hC hw (c_ps_entersAt l G (eSt S q a b k) x5 (stO (eSt S q a b k) x5 q) (eSt_I hI q a b k) (by omega) (by omega)) (cv_cr_169 hC rfl rfl (Nat.le_of_ble_eq_true rfl) (Nat.le_of_ble_eq_true rfl)) (by decide) rfl rfl rfl hl.1 rfl (Nat.le_of_ble_eq_true rfl) d_cr_endSlotsOn_59 ⟨Nat.le_of_ble_eq_true rfl, Nat.le_of_ble_eq_true rfl⟩) ?_
            have r_7 := enA_b (eSt_I hI q a b k) x5 (stO (eSt S q a b k) x5 q)
            refine lv_aload_n hC.1 hC.2.1 d_cr_endSlotsOn_62 rfl (lv_at hl 3 rfl) ?_
            refine gf_cr_26 hC hw d_cr_endSlotsOn_63 ?_
            refine lv_iload hC.1 hC.2.1 d_cr_endSlotsOn_66 (lv_at hl 1 rfl) ?_
            refine lv_iload hC.1 hC.2.1 d_cr_endSlotsOn_68 (lv_at hl 0 rfl) ?_
            refine go_R (ca_V (As := [.int (iI (x5)), .int (iI (stO (eSt S q a b k) x5 q))]) (rest := [.int (iI (enA (eSt S q a b k) x5 (stO (eSt S q a b k) x5 q))), .int (iI (b)), .int (iI (a))]) hC hw (c_ps_leavesAt l G (eSt S q a b k) x5 (stO (eSt S q a b k) x5 q) (eSt_I hI q a b k) (by omega) (by omega)) (cv_cr_172 hC rfl rfl (Nat.le_of_ble_eq_true rfl) (Nat.le_of_ble_eq_true rfl)) (by decide) rfl rfl rfl hl.1 rfl (Nat.le_of_ble_eq_true rfl) d_cr_endSlotsOn_70 ⟨Nat.le_of_ble_eq_true rfl, Nat.le_of_ble_eq_true rfl⟩) ?_
            have r_8 := lvA_b (eSt_I hI q a b k) x5 (stO (eSt S q a b k) x5 q)
            refine go_R (ca_S (As := [.int (iI (a)), .int (iI (b)), .int (iI (enA (eSt S q a b k) x5 (stO (eSt S q a b k) x5 q))), .int (iI (lvA (eSt S q a b k) x5 (stO (eSt S q a b k) x5 q)))]) (rest := []) hC hw (c_cr_shareMinute l G (eSt S q a b k) a b (enA (eSt S q a b k) x5 (stO (eSt S q a b k) x5 q)) (lvA (eSt S q a b k) x5 (stO (eSt S q a b k) x5 q)) (by omega) (by omega) (by omega) (by omega)) (cv_cr_263 hC rfl rfl (Nat.le_of_ble_eq_true rfl) (Nat.le_of_ble_eq_true rfl)) rfl hl.1 rfl (Nat.le_of_ble_eq_true rfl) d_cr_endSlotsOn_73 ⟨Nat.le_of_ble_eq_true rfl, Nat.le_of_ble_eq_true rfl⟩) ?_
            refine ir_beq (tgt := 93) hC d_cr_endSlotsOn_76 (by decide) (fun c_9 => ?_) (fun c_9 => ?_)
            · skip
              refine lv_iinc (v := iI (x5 + 1)) (lv' := [(5, .int (iI (x5 + 1))), (6, .int (iI (stO (eSt S q a b k) x5 q))), (4, .int (iI (x4))), (0, .ref (G.2.1 0)), (1, .int (iI (q))), (2, .int (iI (a))), (3, .int (iI (b)))]) hC.1 hC.2.1 d_cr_endSlotsOn_93 hl (k := 1) rfl (iI_add _ _) (by decide) rfl (fun ls hl => ?_)
              refine lv_goto (tgt := 6) hC.1 hC.2.1 d_cr_endSlotsOn_96 (by decide) ?_
              exact ih_6 (k + 1) _ _ (by omega) (by rw [eCt_s, eCn, ← hx5, ← hx4]; simp [c_2, c_5, c_6, c_9]) (by first | rfl | omega) (by omega) _ _ _ (by have q : eSt S q a b (k + 1) = eSt S q a b k := (by rw [eSt_s, eCn, ← hx5]; simp [c_2, c_5, c_6, c_9]); rw [q]; exact hw) (lv_sub hl [0, 2, 3, 4, 5, 6] rfl)
            · skip
              refine lv_aload_n hC.1 hC.2.1 d_cr_endSlotsOn_79 rfl (lv_at hl 3 rfl) ?_
              refine gf_cr_26 hC hw d_cr_endSlotsOn_80 ?_
              refine gf_cr_142 hC hw d_cr_endSlotsOn_83 ?_
              refine lv_iload hC.1 hC.2.1 d_cr_endSlotsOn_86 (lv_at hl 1 rfl) ?_
              refine lv_iconst (v := iI 0) hC.1 hC.2.1 d_cr_endSlotsOn_88 rfl ?_
              refine st_17 (x := 0) (z := x5) hC hw (by omega) (by omega) (by omega) d_cr_endSlotsOn_89 (fun H locs hw => ?_)
              have hI_10 := Inv.up (q := 17) (i := x5.toNat) (x := 0) (eSt_I hI q a b k) (by omega) (show _ ≤ 1 from by omega)
              refine lv_iinc (v := iI (x4 + 1)) (lv' := [(4, .int (iI (x4 + 1))), (6, .int (iI (stO (eSt S q a b k) x5 q))), (5, .int (iI (x5))), (0, .ref (G.2.1 0)), (1, .int (iI (q))), (2, .int (iI (a))), (3, .int (iI (b)))]) hC.1 hC.2.1 d_cr_endSlotsOn_90 hl (k := 2) rfl (iI_add _ _) (by decide) rfl (fun ls hl => ?_)
              refine lv_iinc (v := iI (x5 + 1)) (lv' := [(5, .int (iI (x5 + 1))), (4, .int (iI (x4 + 1))), (6, .int (iI (stO (eSt S q a b k) x5 q))), (0, .ref (G.2.1 0)), (1, .int (iI (q))), (2, .int (iI (a))), (3, .int (iI (b)))]) hC.1 hC.2.1 d_cr_endSlotsOn_93 hl (k := 2) rfl (iI_add _ _) (by decide) rfl (fun ls hl => ?_)
              refine lv_goto (tgt := 6) hC.1 hC.2.1 d_cr_endSlotsOn_96 (by decide) ?_
              exact ih_6 (k + 1) _ _ (by omega) (by rw [eCt_s, eCn, ← hx5, ← hx4]; simp [c_2, c_5, c_6, c_9]) (by first | rfl | omega) (by omega) _ _ _ (by have q : eSt S q a b (k + 1) = s_up (eSt S q a b k) 17 x5.toNat 0 := (by rw [eSt_s, eCn, ← hx5]; simp [c_2, c_5, c_6, c_9]); rw [q]; exact hw) (lv_sub hl [0, 1, 3, 4, 5, 6] rfl)
  exact loop_6 _ 0 _ _ (Nat.lt_succ_self _) (by first | rfl | omega) (by first | rfl | omega) (by omega) _ _ _ hw (lv_sub hl [0, 1, 2, 3, 4, 5] rfl)
set_option maxHeartbeats 4000000 in
set_option maxRecDepth 100000 in
theorem c_cr_seekConflictOfPair (l : Launch) (G : Gt) (S : St) (a : Int) (b : Int) (n : Int) (w : Int) (hI : Inv S) (ha : 0 ≤ a ∧ a ≤ 30) (hb : 0 ≤ b ∧ b ≤ 30) (hn : 0 ≤ n ∧ n ≤ 1000000) (hw1 : i32 w) : Met l y_cr_seekConflictOfPair [.code y_cr_seekConflictOfPair b_cr_seekConflictOfPair 8 (some .int)] { frames := 3, cells := 0, slots := 0, locals := 79 } (va_Pc [.ref (G.2.1 0), .int (iI (a)), .int (iI (b)), .int (iI (n)), .int (iI (w))] (fun U => wu G S U)) (qW G ((spP S a b n w (S 20 a.toNat).toNat).1) ((spP S a b n w (S 20 a.toNat).toNat).2)) 0 0 (gA G) := by
  refine mt_of (by decide +kernel) (Nat.le_of_ble_eq_true rfl) ?_
  intro p e s m below meth c ls hadm hC hr hlk hex hw hl
  have hC : CallFix p m c b_cr_seekConflictOfPair 8 s _ tws "ChannelRules" := hC
  have hl : lv_has ls 8 [(0, .ref (G.2.1 0)), (1, .int (iI (a))), (2, .int (iI (b))), (3, .int (iI (n))), (4, .int (iI (w)))] := hl
  have i20 := iv_20 hI a.toNat
  refine lv_iload_n hC.1 hC.2.1 d_cr_seekConflictOfPair_0 rfl (lv_at hl 3 rfl) ?_
  refine lv_istore (lv' := [(5, .int (iI (n))), (0, .ref (G.2.1 0)), (1, .int (iI (a))), (2, .int (iI (b))), (3, .int (iI (n))), (4, .int (iI (w)))]) hC.1 hC.2.1 d_cr_seekConflictOfPair_1 hl (by decide) rfl (fun ls hl => ?_)
  refine lv_iconst (v := iI 0) hC.1 hC.2.1 d_cr_seekConflictOfPair_3 rfl ?_
  refine lv_istore (lv' := [(6, .int (iI (0))), (5, .int (iI (n))), (0, .ref (G.2.1 0)), (1, .int (iI (a))), (2, .int (iI (b))), (3, .int (iI (n))), (4, .int (iI (w)))]) hC.1 hC.2.1 d_cr_seekConflictOfPair_4 hl (by decide) rfl (fun ls hl => ?_)
  have loop_6 : ∀ (nn : Nat) (k : Nat) (x5 : Int) (x6 : Int), (S 20 a.toNat).toNat - k < nn → x5 = (spP S a b n w k).2 → x6 = (k : Int) → (k : Int) ≤ S 20 a.toNat → ∀ (H : Heap) (locs : List Loc) (ls : Array Slot), wh G ((spP S a b n w k).1) s H locs → lv_has ls 8 [(6, .int (iI (x6))), (5, .int (iI (x5))), (0, .ref (G.2.1 0)), (1, .int (iI (a))), (2, .int (iI (b))), (3, .int (iI (n))), (4, .int (iI (w)))] → W p l e { frames := 3, cells := 0, slots := 0, locals := 79 } s m ([.ref (G.2.1 0), .int (iI (a)), .int (iI (b)), .int (iI (n)), .int (iI (w))] : List Value).toArray below meth c H locs 0 0 (MQ below (qW G ((spP S a b n w (S 20 a.toNat).toNat).1) ((spP S a b n w (S 20 a.toNat).toNat).2)) ([.ref (G.2.1 0), .int (iI (a)), .int (iI (b)), .int (iI (n)), .int (iI (w))] : List Value).toArray s 0 0 (gA G)) (F0 m 6 ls []) := by
    intro nn
    induction nn with
    | zero => intros; omega
    | succ nn ih_6 =>
      intro k x5 x6 hms_6 hx5 hx6 hv0 H locs ls hw hl
      have e20 : (spP S a b n w k).1 20 a.toNat = S 20 a.toNat := by rw [spP_ne S a b n w k (by decide)]
      have en := spP_n S a b n w k
      refine lv_iload hC.1 hC.2.1 d_cr_seekConflictOfPair_6 (lv_at hl 0 rfl) ?_
      refine lv_aload_n hC.1 hC.2.1 d_cr_seekConflictOfPair_8 rfl (lv_at hl 2 rfl) ?_
      refine gf_cr_26 hC hw d_cr_seekConflictOfPair_9 ?_
      refine gf_cr_104 hC hw d_cr_seekConflictOfPair_12 ?_
      refine lv_iload_n hC.1 hC.2.1 d_cr_seekConflictOfPair_15 rfl (lv_at hl 3 rfl) ?_
      refine ld_20 hC hw (by omega) (by omega) d_cr_seekConflictOfPair_16 ?_
      have b_1 := iv_20 (spP_I (n := n) (w := w) hI ha hb k) a.toNat
      refine ir_ge (tgt := 92) hC.1 hC.2.1 d_cr_seekConflictOfPair_17 (by decide) ⟨by omega, by omega⟩ ⟨by omega, by omega⟩ (fun c_2 => ?_) (fun c_2 => ?_)
      · skip
        refine lv_iload hC.1 hC.2.1 d_cr_seekConflictOfPair_92 (lv_at hl 1 rfl) ?_
        exact rt_W hC hr hlk hw (by rw [hx5, show (S 20 a.toNat).toNat = k by omega]) (by rw [show (S 20 a.toNat).toNat = k by omega]) d_cr_seekConflictOfPair_94
      · skip
        refine lv_aload_n hC.1 hC.2.1 d_cr_seekConflictOfPair_20 rfl (lv_at hl 2 rfl) ?_
        refine lv_iload_n hC.1 hC.2.1 d_cr_seekConflictOfPair_21 rfl (lv_at hl 4 rfl) ?_
        refine lv_iload_n hC.1 hC.2.1 d_cr_seekConflictOfPair_22 rfl (lv_at hl 3 rfl) ?_
        refine lv_iload hC.1 hC.2.1 d_cr_seekConflictOfPair_23 (lv_at hl 0 rfl) ?_
        refine go_R (ca_V (As := [.int (iI (b)), .int (iI (a)), .int (iI (x6))]) (rest := []) hC hw (c_cr_conflictWith l G ((spP S a b n w k).1) b a x6 (spP_I (n := n) (w := w) hI ha hb k) (by omega) (by omega) (by omega)) (cv_cr_257 hC rfl rfl (Nat.le_of_ble_eq_true rfl) (Nat.le_of_ble_eq_true rfl)) (by decide) rfl rfl rfl hl.1 rfl (Nat.le_of_ble_eq_true rfl) d_cr_seekConflictOfPair_25 ⟨Nat.le_of_ble_eq_true rfl, Nat.le_of_ble_eq_true rfl⟩) ?_
        have r_3 := cfw_b ((spP S a b n w k).1) b a x6
        refine lv_istore (lv' := [(7, .int (iI (cfw ((spP S a b n w k).1) b a x6))), (6, .int (iI (x6))), (5, .int (iI (x5))), (0, .ref (G.2.1 0)), (1, .int (iI (a))), (2, .int (iI (b))), (3, .int (iI (n))), (4, .int (iI (w)))]) hC.1 hC.2.1 d_cr_seekConflictOfPair_28 hl (by decide) rfl (fun ls hl => ?_)
        refine lv_iload hC.1 hC.2.1 d_cr_seekConflictOfPair_30 (lv_at hl 0 rfl) ?_
        refine ir_if_ne (tgt := 38) hC.1 hC.2.1 d_cr_seekConflictOfPair_32 (by decide) ⟨by omega, by omega⟩ (fun c_4 => ?_) (fun c_4 => ?_)
        · skip
          refine lv_iload hC.1 hC.2.1 d_cr_seekConflictOfPair_38 (lv_at hl 2 rfl) ?_
          refine lv_iload hC.1 hC.2.1 d_cr_seekConflictOfPair_40 (lv_at hl 7 rfl) ?_
          refine ir_ne (tgt := 83) hC.1 hC.2.1 d_cr_seekConflictOfPair_42 (by decide) ⟨by omega, by omega⟩ ⟨by omega, by omega⟩ (fun c_5 => ?_) (fun c_5 => ?_)
          · skip
            refine lv_iinc (v := iI (x5 + 1)) (lv' := [(5, .int (iI (x5 + 1))), (7, .int (iI (cfw ((spP S a b n w k).1) b a x6))), (6, .int (iI (x6))), (0, .ref (G.2.1 0)), (1, .int (iI (a))), (2, .int (iI (b))), (3, .int (iI (n))), (4, .int (iI (w)))]) hC.1 hC.2.1 d_cr_seekConflictOfPair_83 hl (k := 2) rfl (iI_add _ _) (by decide) rfl (fun ls hl => ?_)
            refine lv_iinc (v := iI (x6 + 1)) (lv' := [(6, .int (iI (x6 + 1))), (5, .int (iI (x5 + 1))), (7, .int (iI (cfw ((spP S a b n w k).1) b a x6))), (0, .ref (G.2.1 0)), (1, .int (iI (a))), (2, .int (iI (b))), (3, .int (iI (n))), (4, .int (iI (w)))]) hC.1 hC.2.1 d_cr_seekConflictOfPair_86 hl (k := 2) rfl (iI_add _ _) (by decide) rfl (fun ls hl => ?_)
            refine lv_goto (tgt := 6) hC.1 hC.2.1 d_cr_seekConflictOfPair_89 (by decide) ?_
            exact ih_6 (k + 1) _ _ (by omega) (by rw [spP_s, ← hx6, ← hx5]; first | (simp [c_2, c_4, c_5]; done) | (simp [c_2, c_4, c_5]; exact hx5)) (by first | rfl | omega) (by omega) _ _ _ (by have q : (spP S a b n w (k + 1)).1 = (spP S a b n w k).1 := (by rw [spP_s, ← hx6, ← hx5]; simp [fcS, c_2, c_4, c_5]); rw [q]; exact hw) (lv_sub hl [0, 1, 3, 4, 5, 6, 7] rfl)
          · skip
            refine lv_aload_n hC.1 hC.2.1 d_cr_seekConflictOfPair_45 rfl (lv_at hl 3 rfl) ?_
            refine gf_cr_34 hC hw d_cr_seekConflictOfPair_46 ?_
            refine lv_iconst (v := iI 0) hC.1 hC.2.1 d_cr_seekConflictOfPair_49 rfl ?_
            refine lv_iload_n hC.1 hC.2.1 d_cr_seekConflictOfPair_50 rfl (lv_at hl 4 rfl) ?_
            refine sc_5 0 (x := a) hC hw (by decide) d_cr_seekConflictOfPair_51 (fun H locs hw => ?_)
            have hI_6 := Inv.up (q := 5) (i := 0) (x := a) (spP_I (n := n) (w := w) hI ha hb k) (by omega) (show _ ≤ 30 from by omega)
            refine lv_aload_n hC.1 hC.2.1 d_cr_seekConflictOfPair_52 rfl (lv_at hl 3 rfl) ?_
            refine gf_cr_34 hC hw d_cr_seekConflictOfPair_53 ?_
            refine lv_iconst (v := iI 1) hC.1 hC.2.1 d_cr_seekConflictOfPair_56 rfl ?_
            refine lv_iload_n hC.1 hC.2.1 d_cr_seekConflictOfPair_57 rfl (lv_at hl 5 rfl) ?_
            refine sc_5 1 (x := b) hC hw (by decide) d_cr_seekConflictOfPair_58 (fun H locs hw => ?_)
            have hI_7 := Inv.up (q := 5) (i := 1) (x := b) hI_6 (by omega) (show _ ≤ 30 from by omega)
            refine lv_aload_n hC.1 hC.2.1 d_cr_seekConflictOfPair_59 rfl (lv_at hl 3 rfl) ?_
            refine gf_cr_34 hC hw d_cr_seekConflictOfPair_60 ?_
            refine lv_iconst (v := iI 2) hC.1 hC.2.1 d_cr_seekConflictOfPair_63 rfl ?_
            refine lv_aload_n hC.1 hC.2.1 d_cr_seekConflictOfPair_64 rfl (lv_at hl 3 rfl) ?_
            refine gf_cr_26 hC hw d_cr_seekConflictOfPair_65 ?_
            refine lv_iload_n hC.1 hC.2.1 d_cr_seekConflictOfPair_68 rfl (lv_at hl 4 rfl) ?_
            refine lv_iload hC.1 hC.2.1 d_cr_seekConflictOfPair_69 (lv_at hl 1 rfl) ?_
            refine go_R (ca_V (As := [.int (iI (a)), .int (iI (x6))]) (rest := [.int (iI (2)), .ref (G.2.1 5)]) hC hw (c_ps_pieceOf l G (s_up (s_up ((spP S a b n w k).1) 5 0 a) 5 1 b) a x6 hI_7 (by omega) (by omega)) (cv_cr_100 hC rfl rfl (Nat.le_of_ble_eq_true rfl) (Nat.le_of_ble_eq_true rfl)) (by decide) rfl rfl rfl hl.1 rfl (Nat.le_of_ble_eq_true rfl) d_cr_seekConflictOfPair_71 ⟨Nat.le_of_ble_eq_true rfl, Nat.le_of_ble_eq_true rfl⟩) ?_
            have r_8 := pOf_b hI_7 a x6
            refine sc_5 2 (x := pOf (s_up (s_up ((spP S a b n w k).1) 5 0 a) 5 1 b) a x6) hC hw (by decide) d_cr_seekConflictOfPair_74 (fun H locs hw => ?_)
            have hI_9 := Inv.up (q := 5) (i := 2) (x := pOf (s_up (s_up ((spP S a b n w k).1) 5 0 a) 5 1 b) a x6) hI_7 (by omega) (show _ ≤ 30 from by omega)
            refine lv_aload_n hC.1 hC.2.1 d_cr_seekConflictOfPair_75 rfl (lv_at hl 3 rfl) ?_
            refine gf_cr_34 hC hw d_cr_seekConflictOfPair_76 ?_
            refine lv_iconst (v := iI 3) hC.1 hC.2.1 d_cr_seekConflictOfPair_79 rfl ?_
            refine lv_iload hC.1 hC.2.1 d_cr_seekConflictOfPair_80 (lv_at hl 0 rfl) ?_
            refine sc_5 3 (x := cfw ((spP S a b n w k).1) b a x6) hC hw (by decide) d_cr_seekConflictOfPair_82 (fun H locs hw => ?_)
            have hI_10 := Inv.up (q := 5) (i := 3) (x := cfw ((spP S a b n w k).1) b a x6) hI_9 (by omega) (show _ ≤ 30 from by omega)
            refine lv_iinc (v := iI (x5 + 1)) (lv' := [(5, .int (iI (x5 + 1))), (7, .int (iI (cfw ((spP S a b n w k).1) b a x6))), (6, .int (iI (x6))), (0, .ref (G.2.1 0)), (1, .int (iI (a))), (2, .int (iI (b))), (3, .int (iI (n))), (4, .int (iI (w)))]) hC.1 hC.2.1 d_cr_seekConflictOfPair_83 hl (k := 2) rfl (iI_add _ _) (by decide) rfl (fun ls hl => ?_)
            refine lv_iinc (v := iI (x6 + 1)) (lv' := [(6, .int (iI (x6 + 1))), (5, .int (iI (x5 + 1))), (7, .int (iI (cfw ((spP S a b n w k).1) b a x6))), (0, .ref (G.2.1 0)), (1, .int (iI (a))), (2, .int (iI (b))), (3, .int (iI (n))), (4, .int (iI (w)))]) hC.1 hC.2.1 d_cr_seekConflictOfPair_86 hl (k := 2) rfl (iI_add _ _) (by decide) rfl (fun ls hl => ?_)
            refine lv_goto (tgt := 6) hC.1 hC.2.1 d_cr_seekConflictOfPair_89 (by decide) ?_
            exact ih_6 (k + 1) _ _ (by omega) (by rw [spP_s, ← hx6, ← hx5]; first | (simp [c_2, c_4, c_5]; done) | (simp [c_2, c_4, c_5]; exact hx5)) (by first | rfl | omega) (by omega) _ _ _ (by have q : (spP S a b n w (k + 1)).1 = s_up (s_up (s_up (s_up ((spP S a b n w k).1) 5 0 a) 5 1 b) 5 2 (pOf (s_up (s_up ((spP S a b n w k).1) 5 0 a) 5 1 b) a x6)) 5 3 (cfw ((spP S a b n w k).1) b a x6) := (by rw [spP_s, ← hx6, ← hx5]; simp [fcS, c_2, c_4, c_5]); rw [q]; exact hw) (lv_sub hl [0, 1, 3, 4, 5, 6, 7] rfl)
        · skip
          refine lv_goto (tgt := 86) hC.1 hC.2.1 d_cr_seekConflictOfPair_35 (by decide) ?_
          refine lv_iinc (v := iI (x6 + 1)) (lv' := [(6, .int (iI (x6 + 1))), (7, .int (iI (cfw ((spP S a b n w k).1) b a x6))), (5, .int (iI (x5))), (0, .ref (G.2.1 0)), (1, .int (iI (a))), (2, .int (iI (b))), (3, .int (iI (n))), (4, .int (iI (w)))]) hC.1 hC.2.1 d_cr_seekConflictOfPair_86 hl (k := 1) rfl (iI_add _ _) (by decide) rfl (fun ls hl => ?_)
          refine lv_goto (tgt := 6) hC.1 hC.2.1 d_cr_seekConflictOfPair_89 (by decide) ?_
          exact ih_6 (k + 1) _ _ (by omega) (by rw [spP_s, ← hx6, ← hx5]; first | (simp [c_2, c_4]; done) | (simp [c_2, c_4]; exact hx5)) (by first | rfl | omega) (by omega) _ _ _ (by have q : (spP S a b n w (k + 1)).1 = (spP S a b n w k).1 := (by rw [spP_s, ← hx6, ← hx5]; simp [fcS, c_2, c_4]); rw [q]; exact hw) (lv_sub hl [0, 2, 3, 4, 5, 6, 7] rfl)
  exact loop_6 _ 0 _ _ (Nat.lt_succ_self _) (by first | rfl | omega) (by first | rfl | omega) (by omega) _ _ _ hw (lv_sub hl [0, 1, 2, 3, 4, 5, 6] rfl)
set_option maxHeartbeats 4000000 in
set_option maxRecDepth 100000 in
theorem c_cr_seekConflict (l : Launch) (G : Gt) (S : St) (w : Int) (hI : Inv S) (hw1 : i32 w) : Met l y_cr_seekConflict [.code y_cr_seekConflict b_cr_seekConflict 5 (some .int)] { frames := 4, cells := 0, slots := 0, locals := 106 } (va_Pc [.ref (G.2.1 0), .int (iI (w))] (fun U => wu G S U)) (qW G ((skO S w (S 3 0).toNat).1) ((skO S w (S 3 0).toNat).2)) 0 0 (gA G) := by
  refine mt_of (by decide +kernel) (Nat.le_of_ble_eq_true rfl) ?_
  intro p e s m below meth c ls hadm hC hr hlk hex hw hl
  have hC : CallFix p m c b_cr_seekConflict 5 s _ tws "ChannelRules" := hC
  have hl : lv_has ls 5 [(0, .ref (G.2.1 0)), (1, .int (iI (w)))] := hl
  have i3 := iv_3 hI 0
  refine lv_iconst (v := iI 0) hC.1 hC.2.1 d_cr_seekConflict_0 rfl ?_
  refine lv_istore_n (lv' := [(2, .int (iI (0))), (0, .ref (G.2.1 0)), (1, .int (iI (w)))]) hC.1 hC.2.1 d_cr_seekConflict_1 rfl hl (by decide) rfl (fun ls hl => ?_)
  refine lv_iconst (v := iI 1) hC.1 hC.2.1 d_cr_seekConflict_2 rfl ?_
  refine lv_istore_n (lv' := [(3, .int (iI (1))), (2, .int (iI (0))), (0, .ref (G.2.1 0)), (1, .int (iI (w)))]) hC.1 hC.2.1 d_cr_seekConflict_3 rfl hl (by decide) rfl (fun ls hl => ?_)
  have loop_4 : ∀ (nn : Nat) (k : Nat) (x2 : Int) (x3 : Int), (S 3 0).toNat - k < nn → x2 = (skO S w k).2 → x3 = (k : Int) + 1 → (k : Int) ≤ S 3 0 → ∀ (H : Heap) (locs : List Loc) (ls : Array Slot), wh G ((skO S w k).1) s H locs → lv_has ls 5 [(3, .int (iI (x3))), (2, .int (iI (x2))), (0, .ref (G.2.1 0)), (1, .int (iI (w)))] → W p l e { frames := 4, cells := 0, slots := 0, locals := 106 } s m ([.ref (G.2.1 0), .int (iI (w))] : List Value).toArray below meth c H locs 0 0 (MQ below (qW G ((skO S w (S 3 0).toNat).1) ((skO S w (S 3 0).toNat).2)) ([.ref (G.2.1 0), .int (iI (w))] : List Value).toArray s 0 0 (gA G)) (F0 m 4 ls []) := by
    intro nn
    induction nn with
    | zero => intros; omega
    | succ nn ih_4 =>
      intro k x2 x3 hms_4 hx2 hx3 hv0 H locs ls hw hl
      have e3 : (skO S w k).1 3 0 = S 3 0 := by rw [skO_ne S w k (by decide)]
      have en := skO_n hI w k (by omega)
      refine lv_iload_n hC.1 hC.2.1 d_cr_seekConflict_4 rfl (lv_at hl 0 rfl) ?_
      refine lv_aload_n hC.1 hC.2.1 d_cr_seekConflict_5 rfl (lv_at hl 2 rfl) ?_
      refine gf_cr_26 hC hw d_cr_seekConflict_6 ?_
      refine gf_cr_110 hC hw d_cr_seekConflict_9 ?_
      have b_1 := iv_3 (skO_I hI w k (by omega)) 0
      refine ir_gt (tgt := 79) hC.1 hC.2.1 d_cr_seekConflict_12 (by decide) ⟨by omega, by omega⟩ ⟨by omega, by omega⟩ (fun c_2 => ?_) (fun c_2 => ?_)
      · skip
        refine lv_iload_n hC.1 hC.2.1 d_cr_seekConflict_79 rfl (lv_at hl 1 rfl) ?_
        exact rt_W hC hr hlk hw (by rw [hx2, show (S 3 0).toNat = k by omega]) (by rw [show (S 3 0).toNat = k by omega]) d_cr_seekConflict_80
      · skip
        refine lv_iload_n hC.1 hC.2.1 d_cr_seekConflict_15 rfl (lv_at hl 0 rfl) ?_
        refine lv_iconst (v := iI 1) hC.1 hC.2.1 d_cr_seekConflict_16 rfl ?_
        refine ir_add hC.1 hC.2.1 d_cr_seekConflict_17 ?_
        refine lv_istore (lv' := [(4, .int (iI (x3 + 1))), (3, .int (iI (x3))), (2, .int (iI (x2))), (0, .ref (G.2.1 0)), (1, .int (iI (w)))]) hC.1 hC.2.1 d_cr_seekConflict_18 hl (by decide) rfl (fun ls hl => ?_)
        have loop_20 : ∀ (nn : Nat) (j : Nat) (x2 : Int) (x4 : Int), (S 3 0 - x3).toNat - j < nn → x2 = (skI w x3 (skO S w k) j).2 → x4 = x3 + 1 + (j : Int) → x3 + (j : Int) ≤ S 3 0 → ∀ (H : Heap) (locs : List Loc) (ls : Array Slot), wh G ((skI w x3 (skO S w k) j).1) s H locs → lv_has ls 5 [(4, .int (iI (x4))), (3, .int (iI (x3))), (2, .int (iI (x2))), (0, .ref (G.2.1 0)), (1, .int (iI (w)))] → W p l e { frames := 4, cells := 0, slots := 0, locals := 106 } s m ([.ref (G.2.1 0), .int (iI (w))] : List Value).toArray below meth c H locs 0 0 (MQ below (qW G ((skO S w (S 3 0).toNat).1) ((skO S w (S 3 0).toNat).2)) ([.ref (G.2.1 0), .int (iI (w))] : List Value).toArray s 0 0 (gA G)) (F0 m 20 ls []) := by
          intro nn
          induction nn with
          | zero => intros; omega
          | succ nn ih_20 =>
            intro j x2 x4 hms_20 hx2 hx4 hv0 H locs ls hw hl
            have f3 : (skI w x3 (skO S w k) j).1 3 0 = S 3 0 := by rw [skI_ne w x3 _ j (by decide)]; exact e3
            have em := skI_n (skO_I hI w k (by omega)) w x3 (by omega) j (by omega)
            refine lv_iload hC.1 hC.2.1 d_cr_seekConflict_20 (lv_at hl 0 rfl) ?_
            refine lv_aload_n hC.1 hC.2.1 d_cr_seekConflict_22 rfl (lv_at hl 3 rfl) ?_
            refine gf_cr_26 hC hw d_cr_seekConflict_23 ?_
            refine gf_cr_110 hC hw d_cr_seekConflict_26 ?_
            have b_3 := iv_3 (skI_I (skO_I hI w k (by omega)) w x3 (by omega) j (by omega)) 0
            refine ir_gt (tgt := 73) hC.1 hC.2.1 d_cr_seekConflict_29 (by decide) ⟨by omega, by omega⟩ ⟨by omega, by omega⟩ (fun c_4 => ?_) (fun c_4 => ?_)
            · skip
              refine lv_iinc (v := iI (x3 + 1)) (lv' := [(3, .int (iI (x3 + 1))), (4, .int (iI (x4))), (2, .int (iI (x2))), (0, .ref (G.2.1 0)), (1, .int (iI (w)))]) hC.1 hC.2.1 d_cr_seekConflict_73 hl (k := 1) rfl (iI_add _ _) (by decide) rfl (fun ls hl => ?_)
              refine lv_goto (tgt := 4) hC.1 hC.2.1 d_cr_seekConflict_76 (by decide) ?_
              exact ih_4 (k + 1) _ _ (by omega) (by rw [hx2, skO_s, ← hx3, show (S 3 0 - x3).toNat = j by omega]) (by first | rfl | omega) (by omega) _ _ _ (by rw [skO_s, ← hx3, show (S 3 0 - x3).toNat = j by omega]; exact hw) (lv_sub hl [0, 2, 3, 4] rfl)
            · skip
              refine lv_aload_n hC.1 hC.2.1 d_cr_seekConflict_32 rfl (lv_at hl 3 rfl) ?_
              refine gf_cr_26 hC hw d_cr_seekConflict_33 ?_
              refine gf_cr_142 hC hw d_cr_seekConflict_36 ?_
              refine lv_iload_n hC.1 hC.2.1 d_cr_seekConflict_39 rfl (lv_at hl 1 rfl) ?_
              refine ld_17 hC hw (by omega) (by omega) d_cr_seekConflict_40 ?_
              have b_5 := iv_17 (skI_I (skO_I hI w k (by omega)) w x3 (by omega) j (by omega)) x3.toNat
              refine ir_if_eq (tgt := 67) hC.1 hC.2.1 d_cr_seekConflict_41 (by decide) ⟨by omega, by omega⟩ (fun c_6 => ?_) (fun c_6 => ?_)
              · skip
                refine lv_iinc (v := iI (x4 + 1)) (lv' := [(4, .int (iI (x4 + 1))), (3, .int (iI (x3))), (2, .int (iI (x2))), (0, .ref (G.2.1 0)), (1, .int (iI (w)))]) hC.1 hC.2.1 d_cr_seekConflict_67 hl (k := 0) rfl (iI_add _ _) (by decide) rfl (fun ls hl => ?_)
                refine lv_goto (tgt := 20) hC.1 hC.2.1 d_cr_seekConflict_70 (by decide) ?_
                exact ih_20 (j + 1) _ _ (by omega) (by rw [skI_s, ← hx4, ← hx2]; first | (simp [c_2, c_4, c_6]; done) | (simp [c_2, c_4, c_6]; exact hx2)) (by first | rfl | omega) (by omega) _ _ _ (by have q : (skI w x3 (skO S w k) (j + 1)).1 = (skI w x3 (skO S w k) j).1 := (by rw [skI_s, ← hx4, ← hx2]; simp [c_2, c_4, c_6]); rw [q]; exact hw) (lv_sub hl [0, 1, 2, 3, 4] rfl)
              · skip
                refine lv_aload_n hC.1 hC.2.1 d_cr_seekConflict_44 rfl (lv_at hl 3 rfl) ?_
                refine gf_cr_26 hC hw d_cr_seekConflict_45 ?_
                refine gf_cr_142 hC hw d_cr_seekConflict_48 ?_
                refine lv_iload hC.1 hC.2.1 d_cr_seekConflict_51 (lv_at hl 0 rfl) ?_
                refine ld_17 hC hw (by omega) (by omega) d_cr_seekConflict_53 ?_
                have b_7 := iv_17 (skI_I (skO_I hI w k (by omega)) w x3 (by omega) j (by omega)) x4.toNat
                refine ir_if_eq (tgt := 67) hC.1 hC.2.1 d_cr_seekConflict_54 (by decide) ⟨by omega, by omega⟩ (fun c_8 => ?_) (fun c_8 => ?_)
                · skip
                  refine lv_iinc (v := iI (x4 + 1)) (lv' := [(4, .int (iI (x4 + 1))), (3, .int (iI (x3))), (2, .int (iI (x2))), (0, .ref (G.2.1 0)), (1, .int (iI (w)))]) hC.1 hC.2.1 d_cr_seekConflict_67 hl (k := 0) rfl (iI_add _ _) (by decide) rfl (fun ls hl => ?_)
                  refine lv_goto (tgt := 20) hC.1 hC.2.1 d_cr_seekConflict_70 (by decide) ?_
                  exact ih_20 (j + 1) _ _ (by omega) (by rw [skI_s, ← hx4, ← hx2]; first | (simp [c_2, c_4, c_6, c_8]; done) | (simp [c_2, c_4, c_6, c_8]; exact hx2)) (by first | rfl | omega) (by omega) _ _ _ (by have q : (skI w x3 (skO S w k) (j + 1)).1 = (skI w x3 (skO S w k) j).1 := (by rw [skI_s, ← hx4, ← hx2]; simp [c_2, c_4, c_6, c_8]); rw [q]; exact hw) (lv_sub hl [0, 1, 2, 3, 4] rfl)
                · skip
                  refine lv_aload_n hC.1 hC.2.1 d_cr_seekConflict_57 rfl (lv_at hl 3 rfl) ?_
                  refine lv_iload_n hC.1 hC.2.1 d_cr_seekConflict_58 rfl (lv_at hl 1 rfl) ?_
                  refine lv_iload hC.1 hC.2.1 d_cr_seekConflict_59 (lv_at hl 0 rfl) ?_
                  refine lv_iload_n hC.1 hC.2.1 d_cr_seekConflict_61 rfl (lv_at hl 2 rfl) ?_
                  refine lv_iload_n hC.1 hC.2.1 d_cr_seekConflict_62 rfl (lv_at hl 4 rfl) ?_
                  refine go_W (ca_V (As := [.int (iI (x3)), .int (iI (x4)), .int (iI (x2)), .int (iI (w))]) (rest := []) hC hw (c_cr_seekConflictOfPair l G ((skI w x3 (skO S w k) j).1) x3 x4 x2 w (skI_I (skO_I hI w k (by omega)) w x3 (by omega) j (by omega)) (by omega) (by omega) (by omega) (by omega)) (cv_cr_288 hC rfl rfl (Nat.le_of_ble_eq_true rfl) (Nat.le_of_ble_eq_true rfl)) (by decide) rfl rfl rfl hl.1 rfl (Nat.le_of_ble_eq_true rfl) d_cr_seekConflict_63 ⟨Nat.le_of_ble_eq_true rfl, Nat.le_of_ble_eq_true rfl⟩) hw (fun H locs hw => ?_)
                  have r_9 := spP_n ((skI w x3 (skO S w k) j).1) x3 x4 x2 w (((skI w x3 (skO S w k) j).1) 20 x3.toNat).toNat
                  refine lv_istore_n (lv' := [(2, .int (iI ((spP ((skI w x3 (skO S w k) j).1) x3 x4 x2 w (((skI w x3 (skO S w k) j).1) 20 x3.toNat).toNat).2))), (4, .int (iI (x4))), (3, .int (iI (x3))), (0, .ref (G.2.1 0)), (1, .int (iI (w)))]) hC.1 hC.2.1 d_cr_seekConflict_66 rfl hl (by decide) rfl (fun ls hl => ?_)
                  refine lv_iinc (v := iI (x4 + 1)) (lv' := [(4, .int (iI (x4 + 1))), (2, .int (iI ((spP ((skI w x3 (skO S w k) j).1) x3 x4 x2 w (((skI w x3 (skO S w k) j).1) 20 x3.toNat).toNat).2))), (3, .int (iI (x3))), (0, .ref (G.2.1 0)), (1, .int (iI (w)))]) hC.1 hC.2.1 d_cr_seekConflict_67 hl (k := 1) rfl (iI_add _ _) (by decide) rfl (fun ls hl => ?_)
                  refine lv_goto (tgt := 20) hC.1 hC.2.1 d_cr_seekConflict_70 (by decide) ?_
                  exact ih_20 (j + 1) _ _ (by omega) (by rw [skI_s, ← hx4, ← hx2]; first | (simp [c_2, c_4, c_6, c_8]; done) | (simp [c_2, c_4, c_6, c_8]; exact hx2)) (by first | rfl | omega) (by omega) _ _ _ (by have q : (skI w x3 (skO S w k) (j + 1)).1 = (spP ((skI w x3 (skO S w k) j).1) x3 x4 x2 w (((skI w x3 (skO S w k) j).1) 20 x3.toNat).toNat).1 := (by rw [skI_s, ← hx4, ← hx2]; simp [c_2, c_4, c_6, c_8]); rw [q]; exact hw) (lv_sub hl [0, 2, 1, 3, 4] rfl)
        exact loop_20 _ 0 _ _ (Nat.lt_succ_self _) hx2 (by first | rfl | omega) (by omega) _ _ _ hw (lv_sub hl [0, 1, 2, 3, 4] rfl)
  exact loop_4 _ 0 _ _ (Nat.lt_succ_self _) (by first | rfl | omega) (by first | rfl | omega) (by omega) _ _ _ hw (lv_sub hl [0, 1, 2, 3] rfl)

/-! the class, as functions of the state: the route -/
def mt1 (S : St) (b : Int) : Nat → St
  | 0 => S
  | k + 1 => s_up (mt1 S b k) 4 k (if (k : Int) = b then 0 else 1000000)
theorem mt1_s (S : St) (b : Int) (k : Nat) : mt1 S b (k + 1) = s_up (mt1 S b k) 4 k (if (k : Int) = b then 0 else 1000000) := rfl
theorem mt1_I {S : St} (h : Inv S) {b : Int} (k : Nat) : Inv (mt1 S b k) := by
  induction k with
  | zero => exact h
  | succ k ih =>
    rw [mt1_s]
    split
    · exact Inv.up (q := 4) ih (by decide) (show (0 : Int) ≤ 1000000 by decide)
    · exact Inv.up (q := 4) ih (by decide) (show (1000000 : Int) ≤ 1000000 by decide)
theorem mt1_ne (S : St) (b : Int) (k : Nat) {c : Nat} (h : c ≠ 4) : mt1 S b k c = S c := by
  induction k with
  | zero => rfl
  | succ k ih => rw [mt1_s, s_up_cell h, ih]
theorem sBy_ne (S : St) (q t : Int) {c : Nat} (h : c ≠ 4) : sBy S q t c = S c := by
  unfold sBy sB1
  rw [s_up_cell h, s_up_cell h]
def rlp (T : St) (sh : Int) : Nat → St
  | 0 => T
  | q + 1 => if fts (rlp T sh q) sh (q : Int) = true then sBy (rlp T sh q) (q : Int) (tTm (rlp T sh q) sh (q : Int)) else rlp T sh q
theorem rlp_s (T : St) (sh : Int) (q : Nat) : rlp T sh (q + 1) = if fts (rlp T sh q) sh (q : Int) = true then sBy (rlp T sh q) (q : Int) (tTm (rlp T sh q) sh (q : Int)) else rlp T sh q := rfl
theorem rlp_ne (T : St) (sh : Int) (k : Nat) {c : Nat} (h : c ≠ 4) : rlp T sh k c = T c := by
  induction k with
  | zero => rfl
  | succ k ih =>
    rw [rlp_s]
    split
    · rw [sBy_ne _ _ _ h, ih]
    · exact ih
theorem rlp_I {T : St} (h : Inv T) {sh : Int} (k : Nat) : Inv (rlp T sh k) := by
  induction k with
  | zero => exact h
  | succ k ih =>
    rw [rlp_s]
    split
    · exact sBy_I ih (tTm_b ih sh (k : Int)).1
    · exact ih
def rlr (T : St) (sh : Int) : Nat → St
  | 0 => T
  | r + 1 => rlp (rlr T sh r) sh (rlr T sh r 1 0).toNat
theorem rlr_ne (T : St) (sh : Int) (k : Nat) {c : Nat} (h : c ≠ 4) : rlr T sh k c = T c := by
  induction k with
  | zero => rfl
  | succ k ih =>
    show rlp _ _ _ c = _
    rw [rlp_ne _ _ _ h, ih]
theorem rlr_I {T : St} (h : Inv T) {sh : Int} (k : Nat) : Inv (rlr T sh k) := by
  induction k with
  | zero => exact h
  | succ k ih => exact rlp_I ih _
def mtl (S : St) (sh b : Int) : St := rlr (mt1 S b 8) sh 7
theorem mtl_I {S : St} (h : Inv S) {sh b : Int} : Inv (mtl S sh b) := rlr_I (mt1_I h 8) 7
theorem mtl_ne (S : St) (sh b : Int) {c : Nat} (h : c ≠ 4) : mtl S sh b c = S c := by
  unfold mtl
  rw [rlr_ne _ _ _ h, mt1_ne _ _ _ h]
theorem sPk_ne (S : St) (sh : Int) (k : Nat) {c : Nat} (h1 : c ≠ 18) (h2 : c ≠ 19) (h3 : c ≠ 20) (h4 : c ≠ 24) : sPk S sh k c = S c := by
  induction k with
  | zero => show sP0 S sh c = _; unfold sP0; rw [s_up_cell h3, s_up_cell h2, s_up_cell h1]
  | succ k ih => show s_up _ _ _ _ c = _; rw [s_up_cell h4, ih]
theorem sPk_20 (S : St) (sh : Int) (k : Nat) : sPk S sh k 20 0 = 0 := by
  induction k with
  | zero => show sP0 S sh 20 0 = 0; exact s_up_self _ _ _ _
  | succ k ih => show s_up _ _ _ _ 20 0 = _; rw [s_up_cell (by decide), ih]
theorem mtl_20 (S : St) (sh b : Int) : mtl (sPk S sh 12) sh b 20 0 = ((0 : Nat) : Int) := by
  rw [mtl_ne _ _ _ (by decide), sPk_20]
  rfl
theorem mtl_15 (S : St) (sh b : Int) (j : Nat) : mtl (sPk S sh 12) sh b 15 j = S 15 j := by
  rw [mtl_ne _ _ _ (by decide), sPk_ne _ _ _ (by decide) (by decide) (by decide) (by decide)]
theorem tTm_c {T : St} (h : Inv T) {sh : Int} (hs : 1 ≤ T 15 sh.toNat) (q : Int) : 0 ≤ tTm T sh q ∧ tTm T sh q ≤ 100 := by
  have h1 := iv_8 h q.toNat
  have h2 := iv_15 h sh.toNat
  unfold tTm
  rw [if_neg (by omega)]
  refine ⟨Int.ediv_nonneg (by omega) (by omega), ?_⟩
  have h3 : (T 8 q.toNat + T 15 sh.toNat - 1) / T 15 sh.toNat < 101 := by
    apply Int.ediv_lt_of_lt_mul (by omega)
    have : 101 * T 15 sh.toNat = 100 * T 15 sh.toNat + T 15 sh.toNat := by omega
    have h4 : 100 * 1 ≤ 100 * T 15 sh.toNat := by omega
    omega
  omega
theorem aSt_I {T : St} (h : Inv T) {q f t : Int} (hq : 0 ≤ q ∧ q < 12) (hf : f = 0 ∨ f = 1) (ht : 0 ≤ t ∧ t ≤ 100) (hm : T 20 0 < 7) : Inv (aSt T q f t) := by
  have h20 := iv_20 h 0
  have a1 := Inv.up (q := 21) (i := (T 20 0).toNat) (x := q) h (by omega) (show _ ≤ 11 by omega)
  have a2 := Inv.up (q := 22) (i := (T 20 0).toNat) (x := f) a1 (by omega) (show _ ≤ 1 by omega)
  have h23 := iv_23x h (T 20 0).toNat
  have a3 := Inv.up (q := 23) (i := (T 20 0 + 1).toNat) (x := T 23 (T 20 0).toNat + t) a2 (by omega) (show _ ≤ 100 * (((T 20 0 + 1).toNat % 8 : Nat) : Int) by omega)
  have a4 := Inv.up (q := 24) (i := q.toNat) (x := T 20 0 + 1) a3 (by omega) (show _ ≤ 7 by omega)
  exact Inv.up (q := 20) (i := 0) (x := T 20 0 + 1) a4 (by omega) (show _ ≤ 7 by omega)
theorem aSt_20 (T : St) (q f t : Int) : aSt T q f t 20 0 = T 20 0 + 1 := s_up_self _ _ _ _
theorem aSt_ne (T : St) (q f t : Int) {c : Nat} (h1 : c ≠ 20) (h2 : c ≠ 21) (h3 : c ≠ 22) (h4 : c ≠ 23) (h5 : c ≠ 24) : aSt T q f t c = T c := by
  unfold aSt
  rw [s_up_cell h1, s_up_cell h5, s_up_cell h4, s_up_cell h3, s_up_cell h2]
theorem aSt_15 (T : St) (q f t : Int) (j : Nat) : aSt T q f t 15 j = T 15 j := by rw [aSt_ne _ _ _ _ (by decide) (by decide) (by decide) (by decide) (by decide)]
theorem aSt_oEnd (T : St) (q f t x y : Int) : oEnd (aSt T q f t) x y = oEnd T x y := by
  unfold oEnd
  rw [aSt_ne _ _ _ _ (by decide) (by decide) (by decide) (by decide) (by decide), aSt_ne _ _ _ _ (by decide) (by decide) (by decide) (by decide) (by decide)]
theorem nxF_o {T : St} (sh t : Int) (q n : Nat) (h : ¬ nxF T sh t q n = -1) : ¬ oEnd T (nxF T sh t q n) t = -1 ∧ (q : Int) ≤ nxF T sh t q n := by
  induction n generalizing q with
  | zero => exact absurd rfl h
  | succ n ih =>
    unfold nxF at h ⊢
    split at h
    · rename_i hc
      rw [if_pos hc]
      exact ⟨hc.1, Int.le_refl _⟩
    · rename_i hc
      rw [if_neg hc]
      have := ih (q + 1) h
      exact ⟨this.1, by omega⟩
theorem nxP_o {T : St} (hI : Inv T) (sh t : Int) (h : ¬ nxP T sh t = -1) (_ht : t ≤ 7) : ¬ oEnd T (nxP T sh t) t = -1 := by
  unfold nxP at h ⊢
  split at h
  · exact absurd rfl h
  · rename_i hc
    rw [if_neg hc]
    exact (nxF_o sh t 0 _ h).1
/-- the plan's stays, piece by piece: the state, and whether the end is reached -/
def prl (sh b : Int) : Nat → St → Int → St × Int
  | 0, T, pt => (T, if pt = b then 1 else 0)
  | n + 1, T, pt => if pt = b then (T, 1) else if nxP T sh pt = -1 then (T, 0) else prl sh b n (aSt T (nxP T sh pt) (if T 6 (nxP T sh pt).toNat = pt then 1 else 0) (tTm T sh (nxP T sh pt))) (oEnd (aSt T (nxP T sh pt) (if T 6 (nxP T sh pt).toNat = pt then 1 else 0) (tTm T sh (nxP T sh pt))) (nxP T sh pt) pt)
theorem prl_s (sh b : Int) (k : Nat) (T : St) (pt : Int) (h : k < 7) : prl sh b (7 - k) T pt = if pt = b then (T, 1) else if nxP T sh pt = -1 then (T, 0) else prl sh b (7 - (k + 1)) (aSt T (nxP T sh pt) (if T 6 (nxP T sh pt).toNat = pt then 1 else 0) (tTm T sh (nxP T sh pt))) (oEnd (aSt T (nxP T sh pt) (if T 6 (nxP T sh pt).toNat = pt then 1 else 0) (tTm T sh (nxP T sh pt))) (nxP T sh pt) pt) := by
  have e : 7 - k = (7 - (k + 1)) + 1 := by omega
  rw [e]
  rfl
theorem prl_end (sh b : Int) (k : Nat) (T : St) (pt v : Int) (h : 7 ≤ k ∨ pt = b) (hv : (pt = b ∧ v = 1) ∨ (¬ pt = b ∧ v = 0)) : v = (prl sh b (7 - k) T pt).2 := by
  rcases Nat.lt_or_ge k 7 with hk | hk
  · rw [prl_s sh b k T pt hk]
    rcases hv with ⟨h1, h2⟩ | ⟨h1, h2⟩
    · rw [if_pos h1, h2]
    · exact absurd h (by omega)
  · rw [show 7 - k = 0 by omega]
    show v = if pt = b then 1 else 0
    rcases hv with ⟨h1, h2⟩ | ⟨h1, h2⟩
    · rw [if_pos h1, h2]
    · rw [if_neg h1, h2]
theorem prl_fin (sh b : Int) (k : Nat) (T : St) (pt : Int) (h : 7 ≤ k ∨ pt = b) : T = (prl sh b (7 - k) T pt).1 := by
  rcases Nat.lt_or_ge k 7 with hk | hk
  · rw [prl_s sh b k T pt hk, if_pos (by omega)]
  · rw [show 7 - k = 0 by omega]
    rfl
def pRt (S : St) (sh a b : Int) : St × Int := if a = b then (sPk S sh 12, 0) else prl sh b 7 (mtl (sPk S sh 12) sh b) a
theorem pRt_u (S : St) (sh a b : Int) : pRt S sh a b = if a = b then (sPk S sh 12, 0) else prl sh b 7 (mtl (sPk S sh 12) sh b) a := rfl
set_option maxHeartbeats 4000000 in
set_option maxRecDepth 100000 in
theorem c_cr_measureTimeLeft (l : Launch) (G : Gt) (S : St) (sh : Int) (b : Int) (hI : Inv S) (hsh : 0 ≤ sh ∧ sh < 12) (hb : 0 ≤ b ∧ b ≤ 7) : Met l y_cr_measureTimeLeft [.code y_cr_measureTimeLeft b_cr_measureTimeLeft 5 none] { frames := 2, cells := 0, slots := 0, locals := 46 } (va_Pc [.ref (G.2.1 0), .int (iI (sh)), .int (iI (b))] (fun U => wu G S U)) (qV G (mtl S sh b)) 0 0 (gA G) := by
  refine mt_of (by decide +kernel) (Nat.le_of_ble_eq_true rfl) ?_
  intro p e s m below meth c ls hadm hC hr hlk hex hw hl
  have hC : CallFix p m c b_cr_measureTimeLeft 5 s _ tws "ChannelRules" := hC
  have hl : lv_has ls 5 [(0, .ref (G.2.1 0)), (1, .int (iI (sh))), (2, .int (iI (b)))] := hl
  have i1 := iv_1 hI 0
  refine lv_iconst (v := iI 0) hC.1 hC.2.1 d_cr_measureTimeLeft_0 rfl ?_
  refine lv_istore_n (lv' := [(3, .int (iI (0))), (0, .ref (G.2.1 0)), (1, .int (iI (sh))), (2, .int (iI (b)))]) hC.1 hC.2.1 d_cr_measureTimeLeft_1 rfl hl (by decide) rfl (fun ls hl => ?_)
  have loop_2 : ∀ (nn : Nat) (k : Nat) (x3 : Int), 8 - k < nn → x3 = (k : Int) → k ≤ 8 → ∀ (H : Heap) (locs : List Loc) (ls : Array Slot), wh G (mt1 S b k) s H locs → lv_has ls 5 [(3, .int (iI (x3))), (0, .ref (G.2.1 0)), (1, .int (iI (sh))), (2, .int (iI (b)))] → W p l e { frames := 2, cells := 0, slots := 0, locals := 46 } s m ([.ref (G.2.1 0), .int (iI (sh)), .int (iI (b))] : List Value).toArray below meth c H locs 0 0 (MQ below (qV G (mtl S sh b)) ([.ref (G.2.1 0), .int (iI (sh)), .int (iI (b))] : List Value).toArray s 0 0 (gA G)) (F0 m 2 ls []) := by
    intro nn
    induction nn with
    | zero => intros; omega
    | succ nn ih_2 =>
      intro k x3 hms_2 hx3 hv0 H locs ls hw hl
      refine lv_iload_n hC.1 hC.2.1 d_cr_measureTimeLeft_2 rfl (lv_at hl 0 rfl) ?_
      refine lv_bipush (v := iI 8) hC.1 hC.2.1 d_cr_measureTimeLeft_3 (by decide +kernel) ?_
      refine ir_ge (tgt := 31) hC.1 hC.2.1 d_cr_measureTimeLeft_5 (by decide) ⟨by omega, by omega⟩ (by decide) (fun c_1 => ?_) (fun c_1 => ?_)
      · skip
        refine lv_iconst (v := iI 0) hC.1 hC.2.1 d_cr_measureTimeLeft_31 rfl ?_
        refine lv_istore_n (lv' := [(3, .int (iI (0))), (0, .ref (G.2.1 0)), (1, .int (iI (sh))), (2, .int (iI (b)))]) hC.1 hC.2.1 d_cr_measureTimeLeft_32 rfl hl (by decide) rfl (fun ls hl => ?_)
        have loop_33 : ∀ (nn : Nat) (r : Nat) (x3 : Int), 7 - r < nn → x3 = (r : Int) → r ≤ 7 → ∀ (H : Heap) (locs : List Loc) (ls : Array Slot), wh G (rlr (mt1 S b 8) sh r) s H locs → lv_has ls 5 [(3, .int (iI (x3))), (0, .ref (G.2.1 0)), (1, .int (iI (sh))), (2, .int (iI (b)))] → W p l e { frames := 2, cells := 0, slots := 0, locals := 46 } s m ([.ref (G.2.1 0), .int (iI (sh)), .int (iI (b))] : List Value).toArray below meth c H locs 0 0 (MQ below (qV G (mtl S sh b)) ([.ref (G.2.1 0), .int (iI (sh)), .int (iI (b))] : List Value).toArray s 0 0 (gA G)) (F0 m 33 ls []) := by
          intro nn
          induction nn with
          | zero => intros; omega
          | succ nn ih_33 =>
            intro r x3 hms_33 hx3 hv0 H locs ls hw hl
            have e1 : rlr (mt1 S b 8) sh r 1 0 = S 1 0 := by rw [rlr_ne _ _ _ (by decide), mt1_ne _ _ _ (by decide)]
            refine lv_iload_n hC.1 hC.2.1 d_cr_measureTimeLeft_33 rfl (lv_at hl 0 rfl) ?_
            refine lv_bipush (v := iI 7) hC.1 hC.2.1 d_cr_measureTimeLeft_34 (by decide +kernel) ?_
            refine ir_ge (tgt := 89) hC.1 hC.2.1 d_cr_measureTimeLeft_36 (by decide) ⟨by omega, by omega⟩ (by decide) (fun c_2 => ?_) (fun c_2 => ?_)
            · skip
              exact rt_V hC hr hlk hw (by rw [show r = 7 by omega]; rfl) d_cr_measureTimeLeft_89
            · skip
              refine lv_iconst (v := iI 0) hC.1 hC.2.1 d_cr_measureTimeLeft_39 rfl ?_
              refine lv_istore (lv' := [(4, .int (iI (0))), (3, .int (iI (x3))), (0, .ref (G.2.1 0)), (1, .int (iI (sh))), (2, .int (iI (b)))]) hC.1 hC.2.1 d_cr_measureTimeLeft_40 hl (by decide) rfl (fun ls hl => ?_)
              have loop_42 : ∀ (nn : Nat) (k : Nat) (x4 : Int), (S 1 0).toNat - k < nn → x4 = (k : Int) → (k : Int) ≤ S 1 0 → ∀ (H : Heap) (locs : List Loc) (ls : Array Slot), wh G (rlp (rlr (mt1 S b 8) sh r) sh k) s H locs → lv_has ls 5 [(4, .int (iI (x4))), (3, .int (iI (x3))), (0, .ref (G.2.1 0)), (1, .int (iI (sh))), (2, .int (iI (b)))] → W p l e { frames := 2, cells := 0, slots := 0, locals := 46 } s m ([.ref (G.2.1 0), .int (iI (sh)), .int (iI (b))] : List Value).toArray below meth c H locs 0 0 (MQ below (qV G (mtl S sh b)) ([.ref (G.2.1 0), .int (iI (sh)), .int (iI (b))] : List Value).toArray s 0 0 (gA G)) (F0 m 42 ls []) := by
                intro nn
                induction nn with
                | zero => intros; omega
                | succ nn ih_42 =>
                  intro k x4 hms_42 hx4 hv0 H locs ls hw hl
                  have e2 : rlp (rlr (mt1 S b 8) sh r) sh k 1 0 = S 1 0 := by rw [rlp_ne _ _ _ (by decide)]; exact e1
                  refine lv_iload hC.1 hC.2.1 d_cr_measureTimeLeft_42 (lv_at hl 0 rfl) ?_
                  refine lv_aload_n hC.1 hC.2.1 d_cr_measureTimeLeft_44 rfl (lv_at hl 2 rfl) ?_
                  refine gf_cr_12 hC hw d_cr_measureTimeLeft_45 ?_
                  refine gf_cr_62 hC hw d_cr_measureTimeLeft_48 ?_
                  have b_3 := iv_1 (rlp_I (rlr_I (mt1_I (b := b) hI 8) (sh := sh) r) (sh := sh) k) 0
                  refine ir_ge (tgt := 83) hC.1 hC.2.1 d_cr_measureTimeLeft_51 (by decide) ⟨by omega, by omega⟩ ⟨by omega, by omega⟩ (fun c_4 => ?_) (fun c_4 => ?_)
                  · skip
                    refine lv_iinc (v := iI (x3 + 1)) (lv' := [(3, .int (iI (x3 + 1))), (4, .int (iI (x4))), (0, .ref (G.2.1 0)), (1, .int (iI (sh))), (2, .int (iI (b)))]) hC.1 hC.2.1 d_cr_measureTimeLeft_83 hl (k := 1) rfl (iI_add _ _) (by decide) rfl (fun ls hl => ?_)
                    refine lv_goto (tgt := 33) hC.1 hC.2.1 d_cr_measureTimeLeft_86 (by decide) ?_
                    exact ih_33 (r + 1) _ (by omega) (by first | rfl | omega) (by omega) _ _ _ (by rw [show k = (rlr (mt1 S b 8) sh r 1 0).toNat by omega] at hw; exact hw) (lv_sub hl [0, 2, 3, 4] rfl)
                  · skip
                    refine lv_aload_n hC.1 hC.2.1 d_cr_measureTimeLeft_54 rfl (lv_at hl 2 rfl) ?_
                    refine lv_iload_n hC.1 hC.2.1 d_cr_measureTimeLeft_55 rfl (lv_at hl 3 rfl) ?_
                    refine lv_iload hC.1 hC.2.1 d_cr_measureTimeLeft_56 (lv_at hl 0 rfl) ?_
                    refine go_R (ca_V (As := [.int (iI (sh)), .int (iI (x4))]) (rest := []) hC hw (c_cr_fits l G (rlp (rlr (mt1 S b 8) sh r) sh k) sh x4 (rlp_I (rlr_I (mt1_I (b := b) hI 8) (sh := sh) r) (sh := sh) k) (by omega) (by omega)) (cv_cr_211 hC rfl rfl (Nat.le_of_ble_eq_true rfl) (Nat.le_of_ble_eq_true rfl)) (by decide) rfl rfl rfl hl.1 rfl (Nat.le_of_ble_eq_true rfl) d_cr_measureTimeLeft_58 ⟨Nat.le_of_ble_eq_true rfl, Nat.le_of_ble_eq_true rfl⟩) ?_
                    refine ir_beq (tgt := 77) hC d_cr_measureTimeLeft_61 (by decide) (fun c_5 => ?_) (fun c_5 => ?_)
                    · skip
                      refine lv_iinc (v := iI (x4 + 1)) (lv' := [(4, .int (iI (x4 + 1))), (3, .int (iI (x3))), (0, .ref (G.2.1 0)), (1, .int (iI (sh))), (2, .int (iI (b)))]) hC.1 hC.2.1 d_cr_measureTimeLeft_77 hl (k := 0) rfl (iI_add _ _) (by decide) rfl (fun ls hl => ?_)
                      refine lv_goto (tgt := 42) hC.1 hC.2.1 d_cr_measureTimeLeft_80 (by decide) ?_
                      exact ih_42 (k + 1) _ (by omega) (by first | rfl | omega) (by omega) _ _ _ (by rw [rlp_s, ← hx4]; simp only [c_5]; first | exact hw | (simp; exact hw)) (lv_sub hl [0, 1, 2, 3, 4] rfl)
                    · skip
                      refine lv_aload_n hC.1 hC.2.1 d_cr_measureTimeLeft_64 rfl (lv_at hl 2 rfl) ?_
                      refine lv_iload hC.1 hC.2.1 d_cr_measureTimeLeft_65 (lv_at hl 0 rfl) ?_
                      refine lv_aload_n hC.1 hC.2.1 d_cr_measureTimeLeft_67 rfl (lv_at hl 2 rfl) ?_
                      refine lv_iload_n hC.1 hC.2.1 d_cr_measureTimeLeft_68 rfl (lv_at hl 3 rfl) ?_
                      refine lv_iload hC.1 hC.2.1 d_cr_measureTimeLeft_69 (lv_at hl 0 rfl) ?_
                      refine go_R (ca_V (As := [.int (iI (sh)), .int (iI (x4))]) (rest := [.int (iI (x4)), .ref (G.2.1 0)]) hC hw (c_cr_travelTime l G (rlp (rlr (mt1 S b 8) sh r) sh k) sh x4 (rlp_I (rlr_I (mt1_I (b := b) hI 8) (sh := sh) r) (sh := sh) k) (by omega) (by omega)) (cv_cr_200 hC rfl rfl (Nat.le_of_ble_eq_true rfl) (Nat.le_of_ble_eq_true rfl)) (by decide) rfl rfl rfl hl.1 rfl (Nat.le_of_ble_eq_true rfl) d_cr_measureTimeLeft_71 ⟨Nat.le_of_ble_eq_true rfl, Nat.le_of_ble_eq_true rfl⟩) ?_
                      have r_6 := tTm_b (rlp_I (rlr_I (mt1_I (b := b) hI 8) (sh := sh) r) (sh := sh) k) sh x4
                      refine go_V (ca_V (As := [.int (iI (x4)), .int (iI (tTm (rlp (rlr (mt1 S b 8) sh r) sh k) sh x4))]) (rest := []) hC hw (c_cr_shortenBy l G (rlp (rlr (mt1 S b 8) sh r) sh k) x4 (tTm (rlp (rlr (mt1 S b 8) sh r) sh k) sh x4) (rlp_I (rlr_I (mt1_I (b := b) hI 8) (sh := sh) r) (sh := sh) k) (by omega) (by omega)) (cv_cr_214 hC rfl rfl (Nat.le_of_ble_eq_true rfl) (Nat.le_of_ble_eq_true rfl)) (by decide) rfl rfl rfl hl.1 rfl (Nat.le_of_ble_eq_true rfl) d_cr_measureTimeLeft_74 ⟨Nat.le_of_ble_eq_true rfl, Nat.le_of_ble_eq_true rfl⟩) hw (fun H locs hw => ?_)
                      refine lv_iinc (v := iI (x4 + 1)) (lv' := [(4, .int (iI (x4 + 1))), (3, .int (iI (x3))), (0, .ref (G.2.1 0)), (1, .int (iI (sh))), (2, .int (iI (b)))]) hC.1 hC.2.1 d_cr_measureTimeLeft_77 hl (k := 0) rfl (iI_add _ _) (by decide) rfl (fun ls hl => ?_)
                      refine lv_goto (tgt := 42) hC.1 hC.2.1 d_cr_measureTimeLeft_80 (by decide) ?_
                      exact ih_42 (k + 1) _ (by omega) (by first | rfl | omega) (by omega) _ _ _ (by rw [rlp_s, ← hx4]; simp only [c_5]; first | exact hw | (simp; exact hw)) (lv_sub hl [0, 1, 2, 3, 4] rfl)
              exact loop_42 _ 0 _ (Nat.lt_succ_self _) (by first | rfl | omega) (by omega) _ _ _ hw (lv_sub hl [0, 1, 2, 3, 4] rfl)
        exact loop_33 _ 0 _ (Nat.lt_succ_self _) (by first | rfl | omega) (by omega) _ _ _ (by rw [show k = 8 by omega] at hw; exact hw) (lv_sub hl [0, 1, 2, 3] rfl)
      · skip
        refine lv_aload_n hC.1 hC.2.1 d_cr_measureTimeLeft_8 rfl (lv_at hl 1 rfl) ?_
        refine gf_cr_30 hC hw d_cr_measureTimeLeft_9 ?_
        refine lv_iload_n hC.1 hC.2.1 d_cr_measureTimeLeft_12 rfl (lv_at hl 0 rfl) ?_
        refine lv_iload_n hC.1 hC.2.1 d_cr_measureTimeLeft_13 rfl (lv_at hl 0 rfl) ?_
        refine lv_iload_n hC.1 hC.2.1 d_cr_measureTimeLeft_14 rfl (lv_at hl 3 rfl) ?_
        refine ir_ne (tgt := 22) hC.1 hC.2.1 d_cr_measureTimeLeft_15 (by decide) ⟨by omega, by omega⟩ ⟨by omega, by omega⟩ (fun c_7 => ?_) (fun c_7 => ?_)
        · skip
          refine ir_ldc hC 1000000 tw_388 (by decide +kernel) d_cr_measureTimeLeft_22 ?_
          refine st_4 (x := 1000000) (z := x3) hC hw (by omega) (by omega) d_cr_measureTimeLeft_24 (fun H locs hw => ?_)
          have hI_8 := Inv.up (q := 4) (i := x3.toNat) (x := 1000000) (mt1_I (b := b) hI k) (by omega) (show _ ≤ 1000000 from by omega)
          refine lv_iinc (v := iI (x3 + 1)) (lv' := [(3, .int (iI (x3 + 1))), (0, .ref (G.2.1 0)), (1, .int (iI (sh))), (2, .int (iI (b)))]) hC.1 hC.2.1 d_cr_measureTimeLeft_25 hl (k := 0) rfl (iI_add _ _) (by decide) rfl (fun ls hl => ?_)
          refine lv_goto (tgt := 2) hC.1 hC.2.1 d_cr_measureTimeLeft_28 (by decide) ?_
          exact ih_2 (k + 1) _ (by omega) (by first | rfl | omega) (by omega) _ _ _ (by rw [show x3.toNat = k by omega] at hw; have q : mt1 S b (k + 1) = s_up (mt1 S b k) 4 k 1000000 := (by rw [mt1_s, if_neg (by omega)]); rw [q]; exact hw) (lv_sub hl [0, 1, 2, 3] rfl)
        · skip
          refine lv_iconst (v := iI 0) hC.1 hC.2.1 d_cr_measureTimeLeft_18 rfl ?_
          refine lv_goto (tgt := 24) hC.1 hC.2.1 d_cr_measureTimeLeft_19 (by decide) ?_
          refine st_4 (x := 0) (z := x3) hC hw (by omega) (by omega) d_cr_measureTimeLeft_24 (fun H locs hw => ?_)
          have hI_9 := Inv.up (q := 4) (i := x3.toNat) (x := 0) (mt1_I (b := b) hI k) (by omega) (show _ ≤ 1000000 from by omega)
          refine lv_iinc (v := iI (x3 + 1)) (lv' := [(3, .int (iI (x3 + 1))), (0, .ref (G.2.1 0)), (1, .int (iI (sh))), (2, .int (iI (b)))]) hC.1 hC.2.1 d_cr_measureTimeLeft_25 hl (k := 0) rfl (iI_add _ _) (by decide) rfl (fun ls hl => ?_)
          refine lv_goto (tgt := 2) hC.1 hC.2.1 d_cr_measureTimeLeft_28 (by decide) ?_
          exact ih_2 (k + 1) _ (by omega) (by first | rfl | omega) (by omega) _ _ _ (by rw [show x3.toNat = k by omega] at hw; have q : mt1 S b (k + 1) = s_up (mt1 S b k) 4 k 0 := (by rw [mt1_s, if_pos (by omega)]); rw [q]; exact hw) (lv_sub hl [0, 1, 2, 3] rfl)
  exact loop_2 _ 0 _ (Nat.lt_succ_self _) (by first | rfl | omega) (by omega) _ _ _ hw (lv_sub hl [0, 1, 2, 3] rfl)
set_option maxHeartbeats 4000000 in
set_option maxRecDepth 100000 in
theorem c_cr_planRoute (l : Launch) (G : Gt) (S : St) (sh : Int) (a : Int) (b : Int) (hI : Inv S) (hsh : 0 ≤ sh ∧ sh < 12) (ha : 0 ≤ a ∧ a ≤ 7) (hb : 0 ≤ b ∧ b ≤ 7) (hsp1 : 1 ≤ S 15 sh.toNat) : Met l y_cr_planRoute [.code y_cr_planRoute b_cr_planRoute 7 (some .boolean)] { frames := 3, cells := 0, slots := 0, locals := 70 } (va_Pc [.ref (G.2.1 0), .int (iI (sh)), .int (iI (a)), .int (iI (b))] (fun U => wu G S U)) (qW G ((pRt S sh a b).1) ((pRt S sh a b).2)) 0 0 (gA G) := by
  refine mt_of (by decide +kernel) (Nat.le_of_ble_eq_true rfl) ?_
  intro p e s m below meth c ls hadm hC hr hlk hex hw hl
  have hC : CallFix p m c b_cr_planRoute 7 s _ tws "ChannelRules" := hC
  have hl : lv_has ls 7 [(0, .ref (G.2.1 0)), (1, .int (iI (sh))), (2, .int (iI (a))), (3, .int (iI (b)))] := hl
  refine lv_aload_n hC.1 hC.2.1 d_cr_planRoute_0 rfl (lv_at hl 0 rfl) ?_
  refine gf_cr_26 hC hw d_cr_planRoute_1 ?_
  refine lv_iload_n hC.1 hC.2.1 d_cr_planRoute_4 rfl (lv_at hl 1 rfl) ?_
  refine go_V (ca_V (As := [.int (iI (sh))]) (rest := []) hC hw (c_ps_startPlan l G S sh hI (by omega)) (cv_cr_186 hC rfl rfl (Nat.le_of_ble_eq_true rfl) (Nat.le_of_ble_eq_true rfl)) (by decide) rfl rfl rfl hl.1 rfl (Nat.le_of_ble_eq_true rfl) d_cr_planRoute_5 ⟨Nat.le_of_ble_eq_true rfl, Nat.le_of_ble_eq_true rfl⟩) hw (fun H locs hw => ?_)
  have hz := pRt_u S sh a b
  refine lv_iload_n hC.1 hC.2.1 d_cr_planRoute_8 rfl (lv_at hl 2 rfl) ?_
  refine lv_iload_n hC.1 hC.2.1 d_cr_planRoute_9 rfl (lv_at hl 3 rfl) ?_
  refine ir_ne (tgt := 15) hC.1 hC.2.1 d_cr_planRoute_10 (by decide) ⟨by omega, by omega⟩ ⟨by omega, by omega⟩ (fun c_1 => ?_) (fun c_1 => ?_)
  · skip
    refine lv_aload_n hC.1 hC.2.1 d_cr_planRoute_15 rfl (lv_at hl 0 rfl) ?_
    refine lv_iload_n hC.1 hC.2.1 d_cr_planRoute_16 rfl (lv_at hl 1 rfl) ?_
    refine lv_iload_n hC.1 hC.2.1 d_cr_planRoute_17 rfl (lv_at hl 3 rfl) ?_
    refine go_V (ca_V (As := [.int (iI (sh)), .int (iI (b))]) (rest := []) hC hw (c_cr_measureTimeLeft l G (sPk S sh 12) sh b (sPk_I hI (show 0 ≤ sh ∧ sh ≤ 11 by omega) 12) (by omega) (by omega)) (cv_cr_190 hC rfl rfl (Nat.le_of_ble_eq_true rfl) (Nat.le_of_ble_eq_true rfl)) (by decide) rfl rfl rfl hl.1 rfl (Nat.le_of_ble_eq_true rfl) d_cr_planRoute_18 ⟨Nat.le_of_ble_eq_true rfl, Nat.le_of_ble_eq_true rfl⟩) hw (fun H locs hw => ?_)
    have hI2 : Inv (mtl (sPk S sh 12) sh b) := mtl_I (sPk_I (sh := sh) hI (by omega) 12)
    refine lv_iload_n hC.1 hC.2.1 d_cr_planRoute_21 rfl (lv_at hl 2 rfl) ?_
    refine lv_istore (lv' := [(4, .int (iI (a))), (0, .ref (G.2.1 0)), (1, .int (iI (sh))), (2, .int (iI (a))), (3, .int (iI (b)))]) hC.1 hC.2.1 d_cr_planRoute_22 hl (by decide) rfl (fun ls hl => ?_)
    refine lv_iconst (v := iI 0) hC.1 hC.2.1 d_cr_planRoute_24 rfl ?_
    refine lv_istore (lv' := [(5, .int (iI (0))), (4, .int (iI (a))), (0, .ref (G.2.1 0)), (1, .int (iI (sh))), (2, .int (iI (a))), (3, .int (iI (b)))]) hC.1 hC.2.1 d_cr_planRoute_25 hl (by decide) rfl (fun ls hl => ?_)
    have loop_27 : ∀ (nn : Nat) (k : Nat) (T : St) (x4 : Int) (x5 : Int), 7 - k < nn → x5 = (k : Int) → k ≤ 7 → 0 ≤ x4 ∧ x4 ≤ 7 → Inv T → T 20 0 = (k : Int) → 1 ≤ T 15 sh.toNat → (pRt S sh a b) = prl sh b (7 - k) T x4 → ∀ (H : Heap) (locs : List Loc) (ls : Array Slot), wh G (T) s H locs → lv_has ls 7 [(5, .int (iI (x5))), (4, .int (iI (x4))), (0, .ref (G.2.1 0)), (1, .int (iI (sh))), (2, .int (iI (a))), (3, .int (iI (b)))] → W p l e { frames := 3, cells := 0, slots := 0, locals := 70 } s m ([.ref (G.2.1 0), .int (iI (sh)), .int (iI (a)), .int (iI (b))] : List Value).toArray below meth c H locs 0 0 (MQ below (qW G ((pRt S sh a b).1) ((pRt S sh a b).2)) ([.ref (G.2.1 0), .int (iI (sh)), .int (iI (a)), .int (iI (b))] : List Value).toArray s 0 0 (gA G)) (F0 m 27 ls []) := by
      intro nn
      induction nn with
      | zero => intros; omega
      | succ nn ih_27 =>
        intro k T x4 x5 hms_27 hx5 hv0 hv1 hv2 hv3 hv4 hv5 H locs ls hw hl
        have tb := tTm_c hv2 hv4
        have tt := tb (nxP T sh x4)
        have i1 := iv_1 hv2 0
        have nb := nxP_b T sh x4
        refine lv_iload hC.1 hC.2.1 d_cr_planRoute_27 (lv_at hl 0 rfl) ?_
        refine lv_bipush (v := iI 7) hC.1 hC.2.1 d_cr_planRoute_29 (by decide +kernel) ?_
        refine ir_ge (tgt := 112) hC.1 hC.2.1 d_cr_planRoute_31 (by decide) ⟨by omega, by omega⟩ (by decide) (fun c_2 => ?_) (fun c_2 => ?_)
        · skip
          refine lv_iload hC.1 hC.2.1 d_cr_planRoute_112 (lv_at hl 1 rfl) ?_
          refine lv_iload_n hC.1 hC.2.1 d_cr_planRoute_114 rfl (lv_at hl 5 rfl) ?_
          refine ir_ne (tgt := 122) hC.1 hC.2.1 d_cr_planRoute_115 (by decide) ⟨by omega, by omega⟩ ⟨by omega, by omega⟩ (fun c_3 => ?_) (fun c_3 => ?_)
          · skip
            refine lv_iconst (v := iI 0) hC.1 hC.2.1 d_cr_planRoute_122 rfl ?_
            exact rt_WZ hC hr hlk hw (by decide) (by rw [hv5]; exact prl_end sh b k T x4 0 (by omega) (by omega)) (by rw [hv5]; exact prl_fin sh b k T x4 (by omega)) d_cr_planRoute_123
          · skip
            refine lv_iconst (v := iI 1) hC.1 hC.2.1 d_cr_planRoute_118 rfl ?_
            refine lv_goto (tgt := 123) hC.1 hC.2.1 d_cr_planRoute_119 (by decide) ?_
            exact rt_WZ hC hr hlk hw (by decide) (by rw [hv5]; exact prl_end sh b k T x4 1 (by omega) (by omega)) (by rw [hv5]; exact prl_fin sh b k T x4 (by omega)) d_cr_planRoute_123
        · skip
          refine lv_iload hC.1 hC.2.1 d_cr_planRoute_34 (lv_at hl 1 rfl) ?_
          refine lv_iload_n hC.1 hC.2.1 d_cr_planRoute_36 rfl (lv_at hl 5 rfl) ?_
          refine ir_eq (tgt := 112) hC.1 hC.2.1 d_cr_planRoute_37 (by decide) ⟨by omega, by omega⟩ ⟨by omega, by omega⟩ (fun c_4 => ?_) (fun c_4 => ?_)
          · skip
            refine lv_iload hC.1 hC.2.1 d_cr_planRoute_112 (lv_at hl 1 rfl) ?_
            refine lv_iload_n hC.1 hC.2.1 d_cr_planRoute_114 rfl (lv_at hl 5 rfl) ?_
            refine ir_ne (tgt := 122) hC.1 hC.2.1 d_cr_planRoute_115 (by decide) ⟨by omega, by omega⟩ ⟨by omega, by omega⟩ (fun c_5 => ?_) (fun c_5 => ?_)
            · skip
              refine lv_iconst (v := iI 0) hC.1 hC.2.1 d_cr_planRoute_122 rfl ?_
              exact rt_WZ hC hr hlk hw (by decide) (by rw [hv5]; exact prl_end sh b k T x4 0 (by omega) (by omega)) (by rw [hv5]; exact prl_fin sh b k T x4 (by omega)) d_cr_planRoute_123
            · skip
              refine lv_iconst (v := iI 1) hC.1 hC.2.1 d_cr_planRoute_118 rfl ?_
              refine lv_goto (tgt := 123) hC.1 hC.2.1 d_cr_planRoute_119 (by decide) ?_
              exact rt_WZ hC hr hlk hw (by decide) (by rw [hv5]; exact prl_end sh b k T x4 1 (by omega) (by omega)) (by rw [hv5]; exact prl_fin sh b k T x4 (by omega)) d_cr_planRoute_123
          · skip
            refine lv_aload_n hC.1 hC.2.1 d_cr_planRoute_40 rfl (lv_at hl 2 rfl) ?_
            refine lv_iload_n hC.1 hC.2.1 d_cr_planRoute_41 rfl (lv_at hl 3 rfl) ?_
            refine lv_iload hC.1 hC.2.1 d_cr_planRoute_42 (lv_at hl 1 rfl) ?_
            refine go_R (ca_V (As := [.int (iI (sh)), .int (iI (x4))]) (rest := []) hC hw (c_cr_nextPiece l G T sh x4 hv2 (by omega) (by omega)) (cv_cr_194 hC rfl rfl (Nat.le_of_ble_eq_true rfl) (Nat.le_of_ble_eq_true rfl)) (by decide) rfl rfl rfl hl.1 rfl (Nat.le_of_ble_eq_true rfl) d_cr_planRoute_44 ⟨Nat.le_of_ble_eq_true rfl, Nat.le_of_ble_eq_true rfl⟩) ?_
            have r_6 := nxP_b T sh x4
            refine lv_istore (lv' := [(6, .int (iI (nxP T sh x4))), (5, .int (iI (x5))), (4, .int (iI (x4))), (0, .ref (G.2.1 0)), (1, .int (iI (sh))), (2, .int (iI (a))), (3, .int (iI (b)))]) hC.1 hC.2.1 d_cr_planRoute_47 hl (by decide) rfl (fun ls hl => ?_)
            refine lv_iload hC.1 hC.2.1 d_cr_planRoute_49 (lv_at hl 0 rfl) ?_
            refine lv_iconst (v := iI (-1)) hC.1 hC.2.1 d_cr_planRoute_51 rfl ?_
            refine ir_ne (tgt := 57) hC.1 hC.2.1 d_cr_planRoute_52 (by decide) ⟨by omega, by omega⟩ (by decide) (fun c_7 => ?_) (fun c_7 => ?_)
            · skip
              refine lv_aload_n hC.1 hC.2.1 d_cr_planRoute_57 rfl (lv_at hl 3 rfl) ?_
              refine gf_cr_26 hC hw d_cr_planRoute_58 ?_
              refine lv_iload hC.1 hC.2.1 d_cr_planRoute_61 (lv_at hl 0 rfl) ?_
              refine lv_aload_n hC.1 hC.2.1 d_cr_planRoute_63 rfl (lv_at hl 3 rfl) ?_
              refine gf_cr_12 hC hw d_cr_planRoute_64 ?_
              refine gf_cr_197 hC hw d_cr_planRoute_67 ?_
              refine lv_iload hC.1 hC.2.1 d_cr_planRoute_70 (lv_at hl 0 rfl) ?_
              refine ld_6 hC hw (by omega) (by omega) d_cr_planRoute_72 ?_
              have b_8 := iv_6 hv2 ((nxP T sh x4).toNat)
              refine lv_iload hC.1 hC.2.1 d_cr_planRoute_73 (lv_at hl 2 rfl) ?_
              refine ir_ne (tgt := 82) hC.1 hC.2.1 d_cr_planRoute_75 (by decide) ⟨by omega, by omega⟩ ⟨by omega, by omega⟩ (fun c_9 => ?_) (fun c_9 => ?_)
              · skip
                refine lv_iconst (v := iI 0) hC.1 hC.2.1 d_cr_planRoute_82 rfl ?_
                refine lv_aload_n hC.1 hC.2.1 d_cr_planRoute_83 rfl (lv_at hl 3 rfl) ?_
                refine lv_iload_n hC.1 hC.2.1 d_cr_planRoute_84 rfl (lv_at hl 4 rfl) ?_
                refine lv_iload hC.1 hC.2.1 d_cr_planRoute_85 (lv_at hl 0 rfl) ?_
                refine go_R (ca_V (As := [.int (iI (sh)), .int (iI (nxP T sh x4))]) (rest := [.int (iI (0)), .int (iI (nxP T sh x4)), .ref (G.2.1 3)]) hC hw (c_cr_travelTime l G T sh (nxP T sh x4) hv2 (by omega) (by omega)) (cv_cr_200 hC rfl rfl (Nat.le_of_ble_eq_true rfl) (Nat.le_of_ble_eq_true rfl)) (by decide) rfl rfl rfl hl.1 rfl (Nat.le_of_ble_eq_true rfl) d_cr_planRoute_87 ⟨Nat.le_of_ble_eq_true rfl, Nat.le_of_ble_eq_true rfl⟩) ?_
                have r_10 := tTm_b hv2 sh (nxP T sh x4)
                refine go_V (ca_V (As := [.int (iI (nxP T sh x4)), .int (iI (0)), .int (iI (tTm T sh (nxP T sh x4)))]) (rest := []) hC hw (c_ps_addStay l G T (nxP T sh x4) 0 (tTm T sh (nxP T sh x4)) hv2 (by omega) (by omega) (by omega) (by omega)) (cv_cr_203 hC rfl rfl (Nat.le_of_ble_eq_true rfl) (Nat.le_of_ble_eq_true rfl)) (by decide) rfl rfl rfl hl.1 rfl (Nat.le_of_ble_eq_true rfl) d_cr_planRoute_90 ⟨Nat.le_of_ble_eq_true rfl, Nat.le_of_ble_eq_true rfl⟩) hw (fun H locs hw => ?_)
                refine lv_aload_n hC.1 hC.2.1 d_cr_planRoute_93 rfl (lv_at hl 3 rfl) ?_
                refine gf_cr_12 hC hw d_cr_planRoute_94 ?_
                refine lv_iload hC.1 hC.2.1 d_cr_planRoute_97 (lv_at hl 0 rfl) ?_
                refine lv_iload hC.1 hC.2.1 d_cr_planRoute_99 (lv_at hl 2 rfl) ?_
                refine go_R (ca_V (As := [.int (iI (nxP T sh x4)), .int (iI (x4))]) (rest := []) hC hw (c_pc_otherEnd l G (aSt T (nxP T sh x4) 0 (tTm T sh (nxP T sh x4))) (nxP T sh x4) x4 (aSt_I hv2 (show 0 ≤ (nxP T sh x4) ∧ (nxP T sh x4) < 12 by omega) (show 0 = 0 ∨ 0 = 1 by omega) (show 0 ≤ (tTm T sh (nxP T sh x4)) ∧ (tTm T sh (nxP T sh x4)) ≤ 100 by omega) (by omega)) (by omega) (by omega)) (cv_cr_207 hC rfl rfl (Nat.le_of_ble_eq_true rfl) (Nat.le_of_ble_eq_true rfl)) (by decide) rfl rfl rfl hl.1 rfl (Nat.le_of_ble_eq_true rfl) d_cr_planRoute_101 ⟨Nat.le_of_ble_eq_true rfl, Nat.le_of_ble_eq_true rfl⟩) ?_
                have r_11 := oEnd_b (aSt_I hv2 (show 0 ≤ (nxP T sh x4) ∧ (nxP T sh x4) < 12 by omega) (show 0 = 0 ∨ 0 = 1 by omega) (show 0 ≤ (tTm T sh (nxP T sh x4)) ∧ (tTm T sh (nxP T sh x4)) ≤ 100 by omega) (by omega)) (nxP T sh x4) x4
                refine lv_istore (lv' := [(4, .int (iI (oEnd (aSt T (nxP T sh x4) 0 (tTm T sh (nxP T sh x4))) (nxP T sh x4) x4))), (6, .int (iI (nxP T sh x4))), (5, .int (iI (x5))), (0, .ref (G.2.1 0)), (1, .int (iI (sh))), (2, .int (iI (a))), (3, .int (iI (b)))]) hC.1 hC.2.1 d_cr_planRoute_104 hl (by decide) rfl (fun ls hl => ?_)
                refine lv_iinc (v := iI (x5 + 1)) (lv' := [(5, .int (iI (x5 + 1))), (4, .int (iI (oEnd (aSt T (nxP T sh x4) 0 (tTm T sh (nxP T sh x4))) (nxP T sh x4) x4))), (6, .int (iI (nxP T sh x4))), (0, .ref (G.2.1 0)), (1, .int (iI (sh))), (2, .int (iI (a))), (3, .int (iI (b)))]) hC.1 hC.2.1 d_cr_planRoute_106 hl (k := 2) rfl (iI_add _ _) (by decide) rfl (fun ls hl => ?_)
                refine lv_goto (tgt := 27) hC.1 hC.2.1 d_cr_planRoute_109 (by decide) ?_
                exact ih_27 (k + 1) _ _ _ (by omega) (by first | rfl | omega) (by omega) (by have g1 := nxP_o hv2 sh x4 (by assumption) (by omega); have g2 := oEnd_b hv2 (nxP T sh x4) x4; simp [aSt_oEnd]; omega) (aSt_I hv2 (by omega) (by omega) (by have := tb (nxP T sh x4); omega) (by omega)) (by rw [aSt_20]; omega) (by rw [aSt_15]; exact hv4) (by rw [hv5, prl_s sh b k T x4 (by omega)]; simp [c_1, c_2, c_4, c_7, c_9]) _ _ _ hw (lv_sub hl [0, 1, 3, 4, 5, 6] rfl)
              · skip
                refine lv_iconst (v := iI 1) hC.1 hC.2.1 d_cr_planRoute_78 rfl ?_
                refine lv_goto (tgt := 83) hC.1 hC.2.1 d_cr_planRoute_79 (by decide) ?_
                refine lv_aload_n hC.1 hC.2.1 d_cr_planRoute_83 rfl (lv_at hl 3 rfl) ?_
                refine lv_iload_n hC.1 hC.2.1 d_cr_planRoute_84 rfl (lv_at hl 4 rfl) ?_
                refine lv_iload hC.1 hC.2.1 d_cr_planRoute_85 (lv_at hl 0 rfl) ?_
                refine go_R (ca_V (As := [.int (iI (sh)), .int (iI (nxP T sh x4))]) (rest := [.int (iI (1)), .int (iI (nxP T sh x4)), .ref (G.2.1 3)]) hC hw (c_cr_travelTime l G T sh (nxP T sh x4) hv2 (by omega) (by omega)) (cv_cr_200 hC rfl rfl (Nat.le_of_ble_eq_true rfl) (Nat.le_of_ble_eq_true rfl)) (by decide) rfl rfl rfl hl.1 rfl (Nat.le_of_ble_eq_true rfl) d_cr_planRoute_87 ⟨Nat.le_of_ble_eq_true rfl, Nat.le_of_ble_eq_true rfl⟩) ?_
                have r_12 := tTm_b hv2 sh (nxP T sh x4)
                refine go_V (ca_V (As := [.int (iI (nxP T sh x4)), .int (iI (1)), .int (iI (tTm T sh (nxP T sh x4)))]) (rest := []) hC hw (c_ps_addStay l G T (nxP T sh x4) 1 (tTm T sh (nxP T sh x4)) hv2 (by omega) (by omega) (by omega) (by omega)) (cv_cr_203 hC rfl rfl (Nat.le_of_ble_eq_true rfl) (Nat.le_of_ble_eq_true rfl)) (by decide) rfl rfl rfl hl.1 rfl (Nat.le_of_ble_eq_true rfl) d_cr_planRoute_90 ⟨Nat.le_of_ble_eq_true rfl, Nat.le_of_ble_eq_true rfl⟩) hw (fun H locs hw => ?_)
                refine lv_aload_n hC.1 hC.2.1 d_cr_planRoute_93 rfl (lv_at hl 3 rfl) ?_
                refine gf_cr_12 hC hw d_cr_planRoute_94 ?_
                refine lv_iload hC.1 hC.2.1 d_cr_planRoute_97 (lv_at hl 0 rfl) ?_
                refine lv_iload hC.1 hC.2.1 d_cr_planRoute_99 (lv_at hl 2 rfl) ?_
                refine go_R (ca_V (As := [.int (iI (nxP T sh x4)), .int (iI (x4))]) (rest := []) hC hw (c_pc_otherEnd l G (aSt T (nxP T sh x4) 1 (tTm T sh (nxP T sh x4))) (nxP T sh x4) x4 (aSt_I hv2 (show 0 ≤ (nxP T sh x4) ∧ (nxP T sh x4) < 12 by omega) (show 1 = 0 ∨ 1 = 1 by omega) (show 0 ≤ (tTm T sh (nxP T sh x4)) ∧ (tTm T sh (nxP T sh x4)) ≤ 100 by omega) (by omega)) (by omega) (by omega)) (cv_cr_207 hC rfl rfl (Nat.le_of_ble_eq_true rfl) (Nat.le_of_ble_eq_true rfl)) (by decide) rfl rfl rfl hl.1 rfl (Nat.le_of_ble_eq_true rfl) d_cr_planRoute_101 ⟨Nat.le_of_ble_eq_true rfl, Nat.le_of_ble_eq_true rfl⟩) ?_
                have r_13 := oEnd_b (aSt_I hv2 (show 0 ≤ (nxP T sh x4) ∧ (nxP T sh x4) < 12 by omega) (show 1 = 0 ∨ 1 = 1 by omega) (show 0 ≤ (tTm T sh (nxP T sh x4)) ∧ (tTm T sh (nxP T sh x4)) ≤ 100 by omega) (by omega)) (nxP T sh x4) x4
                refine lv_istore (lv' := [(4, .int (iI (oEnd (aSt T (nxP T sh x4) 1 (tTm T sh (nxP T sh x4))) (nxP T sh x4) x4))), (6, .int (iI (nxP T sh x4))), (5, .int (iI (x5))), (0, .ref (G.2.1 0)), (1, .int (iI (sh))), (2, .int (iI (a))), (3, .int (iI (b)))]) hC.1 hC.2.1 d_cr_planRoute_104 hl (by decide) rfl (fun ls hl => ?_)
                refine lv_iinc (v := iI (x5 + 1)) (lv' := [(5, .int (iI (x5 + 1))), (4, .int (iI (oEnd (aSt T (nxP T sh x4) 1 (tTm T sh (nxP T sh x4))) (nxP T sh x4) x4))), (6, .int (iI (nxP T sh x4))), (0, .ref (G.2.1 0)), (1, .int (iI (sh))), (2, .int (iI (a))), (3, .int (iI (b)))]) hC.1 hC.2.1 d_cr_planRoute_106 hl (k := 2) rfl (iI_add _ _) (by decide) rfl (fun ls hl => ?_)
                refine lv_goto (tgt := 27) hC.1 hC.2.1 d_cr_planRoute_109 (by decide) ?_
                exact ih_27 (k + 1) _ _ _ (by omega) (by first | rfl | omega) (by omega) (by have g1 := nxP_o hv2 sh x4 (by assumption) (by omega); have g2 := oEnd_b hv2 (nxP T sh x4) x4; simp [aSt_oEnd]; omega) (aSt_I hv2 (by omega) (by omega) (by have := tb (nxP T sh x4); omega) (by omega)) (by rw [aSt_20]; omega) (by rw [aSt_15]; exact hv4) (by rw [hv5, prl_s sh b k T x4 (by omega)]; simp [c_1, c_2, c_4, c_7, c_9]) _ _ _ hw (lv_sub hl [0, 1, 3, 4, 5, 6] rfl)
            · skip
              refine lv_iconst (v := iI 0) hC.1 hC.2.1 d_cr_planRoute_55 rfl ?_
              exact rt_WZ hC hr hlk hw (by decide) (by rw [hv5, prl_s sh b k T x4 (by omega)]; simp [c_1, c_2, c_4, c_7]) (by rw [hv5, prl_s sh b k T x4 (by omega)]; simp [c_1, c_2, c_4, c_7]) d_cr_planRoute_56
    exact loop_27 _ 0 _ _ _ (Nat.lt_succ_self _) (by first | rfl | omega) (by omega) (by omega) hI2 (mtl_20 S sh b) (by rw [mtl_15]; exact hsp1) (by rw [hz, if_neg (by assumption)]) _ _ _ hw (lv_sub hl [0, 1, 2, 3, 4, 5] rfl)
  · skip
    refine lv_iconst (v := iI 0) hC.1 hC.2.1 d_cr_planRoute_13 rfl ?_
    exact rt_WZ hC hr hlk hw (by decide) (by rw [hz, if_pos (by assumption)]) (by rw [hz, if_pos (by assumption)]) d_cr_planRoute_14

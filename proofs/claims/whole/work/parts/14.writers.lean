/-! the class, as functions of the state: what its own writers leave -/
theorem iu_10 {S : St} (h : Inv S) (i : Nat) {x : Int} (hx : 0 ≤ x ∧ x ≤ 100) : Inv (s_up S 10 i x) := Inv.up (q := 10) h hx.1 hx.2
def pAdd (S : St) (a b n w : Int) : St := s_up (s_up (s_up (s_up (s_up (s_up S 6 (S 1 0).toNat a) 7 (S 1 0).toNat b) 8 (S 1 0).toNat n) 9 (S 1 0).toNat w) 10 (S 1 0 * 5 + 2).toNat 100) 1 0 (S 1 0 + 1)
def sAdd (S : St) (a b d : Int) : St := s_up (s_up (s_up (s_up S 14 (S 2 0).toNat a) 15 (S 2 0).toNat b) 16 (S 2 0).toNat d) 2 0 (S 2 0 + 1)
def aSp (S : St) (q a b : Int) : St := s_up (s_up (s_up S 12 (q * 4 + S 11 q.toNat).toNat a) 13 (q * 4 + S 11 q.toNat).toNat b) 11 q.toNat (S 11 q.toNat + 1)
def aSt (S : St) (q f t : Int) : St := s_up (s_up (s_up (s_up (s_up S 21 (S 20 0).toNat q) 22 (S 20 0).toNat f) 23 (S 20 0 + 1).toNat (S 23 (S 20 0).toNat + t)) 24 q.toNat (S 20 0 + 1)) 20 0 (S 20 0 + 1)
def sP0 (S : St) (sh : Int) : St := s_up (s_up (s_up S 18 0 sh) 19 0 0) 20 0 0
def sPk (S : St) (sh : Int) : Nat → St
  | 0 => sP0 S sh
  | k + 1 => s_up (sPk S sh k) 24 k 0
theorem sPk_I {S : St} (h : Inv S) {sh : Int} (hs : 0 ≤ sh ∧ sh ≤ 11) (k : Nat) : Inv (sPk S sh k) := by
  induction k with
  | zero => exact Inv.up (q := 20) (i := 0) (Inv.up (q := 19) (i := 0) (Inv.up (q := 18) (i := 0) h hs.1 hs.2) (by decide) (by decide)) (by decide) (by decide)
  | succ k ih => exact Inv.up (q := 24) (i := k) ih (by decide) (show (0 : Int) ≤ 7 by decide)
def sB1 (S : St) (q t : Int) : St := s_up S 4 (S 6 q.toNat).toNat (min (S 4 (S 6 q.toNat).toNat) (S 4 (S 7 q.toNat).toNat + t))
def sBy (S : St) (q t : Int) : St := s_up (sB1 S q t) 4 (S 7 q.toNat).toNat (min (sB1 S q t 4 (S 7 q.toNat).toNat) (sB1 S q t 4 (S 6 q.toNat).toNat + t))
theorem sB1_I {S : St} (h : Inv S) {q t : Int} (ht : 0 ≤ t) : Inv (sB1 S q t) := by
  have h1 := iv_4 h (S 6 q.toNat).toNat
  have h2 := iv_4 h (S 7 q.toNat).toNat
  exact Inv.up (q := 4) h (by omega) (show _ ≤ 1000000 by omega)
theorem sBy_I {S : St} (h : Inv S) {q t : Int} (ht : 0 ≤ t) : Inv (sBy S q t) := by
  have h1 := iv_4 (sB1_I h (q := q) ht) (S 6 q.toNat).toNat
  have h2 := iv_4 (sB1_I h (q := q) ht) (S 7 q.toNat).toNat
  exact Inv.up (q := 4) (sB1_I h ht) (by omega) (show _ ≤ 1000000 by omega)
def gva (S : St) : St := s_up S 3 0 (S 3 0 + 1)
def gvb (S : St) : St := s_up (gva S) 17 (gva S 3 0).toNat 1
def gvc (S : St) : St := s_up (gvb S) 18 (gva S 3 0).toNat (gvb S 18 0)
def gvd (S : St) : St := s_up (gvc S) 19 (gva S 3 0).toNat (gvc S 19 0)
def gve (S : St) : St := s_up (gvd S) 20 (gva S 3 0).toNat (gvd S 20 0)
def gs1 (T : St) (n k : Int) : St := s_up T 21 (n * 7 + k).toNat (pOf T 0 k)
def gs2 (T : St) (n k : Int) : St := s_up (gs1 T n k) 22 (n * 7 + k).toNat (fOf (gs1 T n k) 0 k)
def gs3 (T : St) (n k : Int) : St := s_up (gs2 T n k) 23 (n * 8 + k + 1).toNat (gs2 T n k 23 (0 + k + 1).toNat)
def gvf (S : St) : Nat → St
  | 0 => gve S
  | k + 1 => gs3 (gvf S k) (gva S 3 0) (k : Int)
def gvg (S : St) : Nat → St
  | 0 => gvf S (gve S 20 0).toNat
  | k + 1 => s_up (gvg S k) 24 (gva S 3 0 * 12 + (k : Int)).toNat (gvg S k 24 (0 + (k : Int)).toNat)
theorem gva_3 (S : St) : gva S 3 0 = S 3 0 + 1 := by simp [gva, s_up, va_up]
theorem gve_I {S : St} (h : Inv S) (hm : S 3 0 < 30) : Inv (gve S) := by
  have h3 := iv_3 h 0
  have a1 : Inv (gva S) := Inv.up (q := 3) h (by omega) (show _ ≤ 30 by omega)
  have a2 : Inv (gvb S) := Inv.up (q := 17) a1 (by decide) (show (1 : Int) ≤ 1 by decide)
  have a3 : Inv (gvc S) := Inv.up (q := 18) a2 (iv_18 a2 0).1 (iv_18 a2 0).2
  have a4 : Inv (gvd S) := Inv.up (q := 19) a3 (iv_19 a3 0).1 (iv_19 a3 0).2
  exact Inv.up (q := 20) a4 (iv_20 a4 0).1 (iv_20 a4 0).2
theorem gs3_I {T : St} (h : Inv T) {n k : Int} (hn : 0 ≤ n) (hk : 0 ≤ k ∧ k < 7) : Inv (gs3 T n k) := by
  have a1 : Inv (gs1 T n k) := Inv.up (q := 21) h (pOf_b h 0 k).1 (pOf_b h 0 k).2
  have a2 : Inv (gs2 T n k) := Inv.up (q := 22) a1 (fOf_b a1 0 k).1 (fOf_b a1 0 k).2
  have h1 := iv_23x a2 (0 + k + 1).toNat
  refine Inv.up (q := 23) a2 h1.1 (show _ ≤ 100 * (((n * 8 + k + 1).toNat % 8 : Nat) : Int) from ?_)
  omega
theorem gvf_20 (S : St) (hm : S 3 0 < 30) (h0 : 0 ≤ S 3 0) (k : Nat) : gvf S k 20 0 = gve S 20 0 := by
  induction k with
  | zero => rfl
  | succ k ih =>
    show gs3 (gvf S k) (gva S 3 0) (k : Int) 20 0 = _
    rw [← ih]
    simp [gs3, gs2, gs1, s_up_cell]
theorem gvf_I0 {S : St} (h : Inv S) (hm : S 3 0 < 30) (k : Nat) (hk : k ≤ 7) : Inv (gvf S k) := by
  have h3 := iv_3 h 0
  induction k with
  | zero => exact gve_I h hm
  | succ k ih => exact gs3_I (ih (by omega)) (by rw [gva_3]; omega) ⟨by omega, by omega⟩
theorem gvg_I {S : St} (h : Inv S) (hm : S 3 0 < 30) (k : Nat) : Inv (gvg S k) := by
  have h20 := iv_20 (gve_I h hm) 0
  induction k with
  | zero => exact gvf_I0 h hm _ (by omega)
  | succ k ih => exact Inv.up (q := 24) ih (iv_24 ih _).1 (iv_24 ih _).2
set_option maxHeartbeats 4000000 in
set_option maxRecDepth 100000 in
theorem c_pc_setRule (l : Launch) (G : Gt) (S : St) (q : Int) (k : Int) (v : Int) (hq : 0 ≤ q ∧ q < 12) (hk : 0 ≤ k ∧ k < 5) : Met l y_pc_setRule [.code y_pc_setRule b_pc_setRule 4 none] { frames := 0, cells := 0, slots := 0, locals := 0 } (va_Pc [.ref (G.2.1 1), .int (iI (q)), .int (iI (k)), .int (iI (v))] (fun U => wu G S U)) (qV G (s_up S 10 (q * 5 + k).toNat v)) 0 0 (gA G) := by
  refine mt_of (by decide +kernel) (Nat.le_of_ble_eq_true rfl) ?_
  intro p e s m below meth c ls hadm hC hr hlk hex hw hl
  have hC : CallFix p m c b_pc_setRule 4 s _ tws "ChannelRules$Pieces" := hC
  have hl : lv_has ls 4 [(0, .ref (G.2.1 1)), (1, .int (iI (q))), (2, .int (iI (k))), (3, .int (iI (v)))] := hl
  refine lv_aload_n hC.1 hC.2.1 d_pc_setRule_0 rfl (lv_at hl 0 rfl) ?_
  refine gf_pc_28 hC hw d_pc_setRule_1 ?_
  refine lv_iload_n hC.1 hC.2.1 d_pc_setRule_4 rfl (lv_at hl 1 rfl) ?_
  refine lv_iconst (v := iI 5) hC.1 hC.2.1 d_pc_setRule_5 rfl ?_
  refine ir_mul hC.1 hC.2.1 d_pc_setRule_6 ?_
  refine lv_iload_n hC.1 hC.2.1 d_pc_setRule_7 rfl (lv_at hl 2 rfl) ?_
  refine ir_add hC.1 hC.2.1 d_pc_setRule_8 ?_
  refine lv_iload_n hC.1 hC.2.1 d_pc_setRule_9 rfl (lv_at hl 3 rfl) ?_
  refine st_10 (x := v) (z := (q * 5) + k) hC hw (by omega) (by omega) d_pc_setRule_10 (fun H locs hw => ?_)
  exact rt_V hC hr hlk hw rfl d_pc_setRule_11
set_option maxHeartbeats 4000000 in
set_option maxRecDepth 100000 in
theorem c_pc_add (l : Launch) (G : Gt) (S : St) (a : Int) (b : Int) (n : Int) (w : Int) (hI : Inv S) (hm : S 1 0 < 12) (ha : 0 ≤ a ∧ a ≤ 7) (hb : 0 ≤ b ∧ b ≤ 7) (hn : 0 ≤ n ∧ n ≤ 100) (hw1 : 0 ≤ w ∧ w ≤ 100) : Met l y_pc_add [.code y_pc_add b_pc_add 6 (some .int)] { frames := 1, cells := 0, slots := 0, locals := 23 } (va_Pc [.ref (G.2.1 1), .int (iI (a)), .int (iI (b)), .int (iI (n)), .int (iI (w))] (fun U => wu G S U)) (qW G (pAdd S a b n w) (S 1 0)) 0 0 (gA G) := by
  refine mt_of (by decide +kernel) (Nat.le_of_ble_eq_true rfl) ?_
  intro p e s m below meth c ls hadm hC hr hlk hex hw hl
  have hC : CallFix p m c b_pc_add 6 s _ tws "ChannelRules$Pieces" := hC
  have hl : lv_has ls 6 [(0, .ref (G.2.1 1)), (1, .int (iI (a))), (2, .int (iI (b))), (3, .int (iI (n))), (4, .int (iI (w)))] := hl
  have i1 := iv_1 hI 0
  refine lv_aload_n hC.1 hC.2.1 d_pc_add_0 rfl (lv_at hl 0 rfl) ?_
  refine gf_pc_9 hC hw d_pc_add_1 ?_
  have b_1 := iv_1 hI 0
  refine lv_istore (lv' := [(5, .int (iI (S 1 0))), (0, .ref (G.2.1 1)), (1, .int (iI (a))), (2, .int (iI (b))), (3, .int (iI (n))), (4, .int (iI (w)))]) hC.1 hC.2.1 d_pc_add_4 hl (by decide) rfl (fun ls hl => ?_)
  refine lv_aload_n hC.1 hC.2.1 d_pc_add_6 rfl (lv_at hl 1 rfl) ?_
  refine gf_pc_15 hC hw d_pc_add_7 ?_
  refine lv_iload hC.1 hC.2.1 d_pc_add_10 (lv_at hl 0 rfl) ?_
  refine lv_iload_n hC.1 hC.2.1 d_pc_add_12 rfl (lv_at hl 2 rfl) ?_
  refine st_6 (x := a) (z := S 1 0) hC hw (by omega) (by omega) d_pc_add_13 (fun H locs hw => ?_)
  have hI_2 := Inv.up (q := 6) (i := (S 1 0).toNat) (x := a) hI (by omega) (show _ ≤ 7 from by omega)
  refine lv_aload_n hC.1 hC.2.1 d_pc_add_14 rfl (lv_at hl 1 rfl) ?_
  refine gf_pc_19 hC hw d_pc_add_15 ?_
  refine lv_iload hC.1 hC.2.1 d_pc_add_18 (lv_at hl 0 rfl) ?_
  refine lv_iload_n hC.1 hC.2.1 d_pc_add_20 rfl (lv_at hl 3 rfl) ?_
  refine st_7 (x := b) (z := S 1 0) hC hw (by omega) (by omega) d_pc_add_21 (fun H locs hw => ?_)
  have hI_3 := Inv.up (q := 7) (i := (S 1 0).toNat) (x := b) hI_2 (by omega) (show _ ≤ 7 from by omega)
  refine lv_aload_n hC.1 hC.2.1 d_pc_add_22 rfl (lv_at hl 1 rfl) ?_
  refine gf_pc_22 hC hw d_pc_add_23 ?_
  refine lv_iload hC.1 hC.2.1 d_pc_add_26 (lv_at hl 0 rfl) ?_
  refine lv_iload_n hC.1 hC.2.1 d_pc_add_28 rfl (lv_at hl 4 rfl) ?_
  refine st_8 (x := n) (z := S 1 0) hC hw (by omega) (by omega) d_pc_add_29 (fun H locs hw => ?_)
  have hI_4 := Inv.up (q := 8) (i := (S 1 0).toNat) (x := n) hI_3 (by omega) (show _ ≤ 100 from by omega)
  refine lv_aload_n hC.1 hC.2.1 d_pc_add_30 rfl (lv_at hl 1 rfl) ?_
  refine gf_pc_25 hC hw d_pc_add_31 ?_
  refine lv_iload hC.1 hC.2.1 d_pc_add_34 (lv_at hl 0 rfl) ?_
  refine lv_iload hC.1 hC.2.1 d_pc_add_36 (lv_at hl 5 rfl) ?_
  refine st_9 (x := w) (z := S 1 0) hC hw (by omega) (by omega) d_pc_add_38 (fun H locs hw => ?_)
  have hI_5 := Inv.up (q := 9) (i := (S 1 0).toNat) (x := w) hI_4 (by omega) (show _ ≤ 100 from by omega)
  refine lv_aload_n hC.1 hC.2.1 d_pc_add_39 rfl (lv_at hl 1 rfl) ?_
  refine lv_iload hC.1 hC.2.1 d_pc_add_40 (lv_at hl 0 rfl) ?_
  refine lv_iconst (v := iI 2) hC.1 hC.2.1 d_pc_add_42 rfl ?_
  refine lv_bipush (v := iI 100) hC.1 hC.2.1 d_pc_add_43 (by decide +kernel) ?_
  refine go_V (ca_V (As := [.int (iI (S 1 0)), .int (iI (2)), .int (iI (100))]) (rest := []) hC hw (c_pc_setRule l G (s_up (s_up (s_up (s_up S 6 (S 1 0).toNat a) 7 (S 1 0).toNat b) 8 (S 1 0).toNat n) 9 (S 1 0).toNat w) (S 1 0) 2 100 (by omega) (by omega)) (cv_pc_44 hC rfl rfl (Nat.le_of_ble_eq_true rfl) (Nat.le_of_ble_eq_true rfl)) (by decide) rfl rfl rfl hl.1 rfl (Nat.le_of_ble_eq_true rfl) d_pc_add_45 ⟨Nat.le_of_ble_eq_true rfl, Nat.le_of_ble_eq_true rfl⟩) hw (fun H locs hw => ?_)
  refine lv_aload_n hC.1 hC.2.1 d_pc_add_48 rfl (lv_at hl 1 rfl) ?_
  refine lv_dup hC.1 hC.2.1 d_pc_add_49 rfl ?_
  refine gf_pc_9 hC hw d_pc_add_50 ?_
  have b_6 := iv_1 (iu_10 hI_5 ((S 1 0) * 5 + 2).toNat (show 0 ≤ 100 ∧ 100 ≤ 100 by omega)) 0
  refine lv_iconst (v := iI 1) hC.1 hC.2.1 d_pc_add_53 rfl ?_
  refine ir_add hC.1 hC.2.1 d_pc_add_54 ?_
  refine pf_pc_9 (x := ((s_up (s_up (s_up (s_up (s_up S 6 (S 1 0).toNat a) 7 (S 1 0).toNat b) 8 (S 1 0).toNat n) 9 (S 1 0).toNat w) 10 ((S 1 0) * 5 + 2).toNat 100) 1 0) + 1) hC hw d_pc_add_55 (fun H locs hw => ?_)
  refine lv_iload hC.1 hC.2.1 d_pc_add_58 (lv_at hl 0 rfl) ?_
  exact rt_W hC hr hlk hw rfl (by simp [pAdd, s_up_cell]) d_pc_add_60
set_option maxHeartbeats 4000000 in
set_option maxRecDepth 100000 in
theorem c_sh_add (l : Launch) (G : Gt) (S : St) (a : Int) (b : Int) (d : Int) (hI : Inv S) (hm : S 2 0 < 12) (ha : 0 ≤ a ∧ a ≤ 100) (hb : 0 ≤ b ∧ b ≤ 20) (hd : 0 ≤ d ∧ d ≤ 2) : Met l y_sh_add [.code y_sh_add b_sh_add 5 (some .int)] { frames := 0, cells := 0, slots := 0, locals := 0 } (va_Pc [.ref (G.2.1 2), .int (iI (a)), .int (iI (b)), .int (iI (d))] (fun U => wu G S U)) (qW G (sAdd S a b d) (S 2 0)) 0 0 (gA G) := by
  refine mt_of (by decide +kernel) (Nat.le_of_ble_eq_true rfl) ?_
  intro p e s m below meth c ls hadm hC hr hlk hex hw hl
  have hC : CallFix p m c b_sh_add 5 s _ tws "ChannelRules$Ships" := hC
  have hl : lv_has ls 5 [(0, .ref (G.2.1 2)), (1, .int (iI (a))), (2, .int (iI (b))), (3, .int (iI (d)))] := hl
  have i1 := iv_2 hI 0
  refine lv_aload_n hC.1 hC.2.1 d_sh_add_0 rfl (lv_at hl 0 rfl) ?_
  refine gf_sh_9 hC hw d_sh_add_1 ?_
  have b_1 := iv_2 hI 0
  refine lv_istore (lv' := [(4, .int (iI (S 2 0))), (0, .ref (G.2.1 2)), (1, .int (iI (a))), (2, .int (iI (b))), (3, .int (iI (d)))]) hC.1 hC.2.1 d_sh_add_4 hl (by decide) rfl (fun ls hl => ?_)
  refine lv_aload_n hC.1 hC.2.1 d_sh_add_6 rfl (lv_at hl 1 rfl) ?_
  refine gf_sh_15 hC hw d_sh_add_7 ?_
  refine lv_iload hC.1 hC.2.1 d_sh_add_10 (lv_at hl 0 rfl) ?_
  refine lv_iload_n hC.1 hC.2.1 d_sh_add_12 rfl (lv_at hl 2 rfl) ?_
  refine st_14 (x := a) (z := S 2 0) hC hw (by omega) (by omega) d_sh_add_13 (fun H locs hw => ?_)
  have hI_2 := Inv.up (q := 14) (i := (S 2 0).toNat) (x := a) hI (by omega) (show _ ≤ 100 from by omega)
  refine lv_aload_n hC.1 hC.2.1 d_sh_add_14 rfl (lv_at hl 1 rfl) ?_
  refine gf_sh_19 hC hw d_sh_add_15 ?_
  refine lv_iload hC.1 hC.2.1 d_sh_add_18 (lv_at hl 0 rfl) ?_
  refine lv_iload_n hC.1 hC.2.1 d_sh_add_20 rfl (lv_at hl 3 rfl) ?_
  refine st_15 (x := b) (z := S 2 0) hC hw (by omega) (by omega) d_sh_add_21 (fun H locs hw => ?_)
  have hI_3 := Inv.up (q := 15) (i := (S 2 0).toNat) (x := b) hI_2 (by omega) (show _ ≤ 20 from by omega)
  refine lv_aload_n hC.1 hC.2.1 d_sh_add_22 rfl (lv_at hl 1 rfl) ?_
  refine gf_sh_22 hC hw d_sh_add_23 ?_
  refine lv_iload hC.1 hC.2.1 d_sh_add_26 (lv_at hl 0 rfl) ?_
  refine lv_iload_n hC.1 hC.2.1 d_sh_add_28 rfl (lv_at hl 4 rfl) ?_
  refine st_16 (x := d) (z := S 2 0) hC hw (by omega) (by omega) d_sh_add_29 (fun H locs hw => ?_)
  have hI_4 := Inv.up (q := 16) (i := (S 2 0).toNat) (x := d) hI_3 (by omega) (show _ ≤ 2 from by omega)
  refine lv_aload_n hC.1 hC.2.1 d_sh_add_30 rfl (lv_at hl 1 rfl) ?_
  refine lv_dup hC.1 hC.2.1 d_sh_add_31 rfl ?_
  refine gf_sh_9 hC hw d_sh_add_32 ?_
  have b_5 := iv_2 hI_4 0
  refine lv_iconst (v := iI 1) hC.1 hC.2.1 d_sh_add_35 rfl ?_
  refine ir_add hC.1 hC.2.1 d_sh_add_36 ?_
  refine pf_sh_9 (x := ((s_up (s_up (s_up S 14 (S 2 0).toNat a) 15 (S 2 0).toNat b) 16 (S 2 0).toNat d) 2 0) + 1) hC hw d_sh_add_37 (fun H locs hw => ?_)
  refine lv_iload hC.1 hC.2.1 d_sh_add_40 (lv_at hl 0 rfl) ?_
  exact rt_W hC hr hlk hw rfl (by simp [sAdd, s_up_cell]) d_sh_add_42
set_option maxHeartbeats 4000000 in
set_option maxRecDepth 100000 in
theorem c_pc_addSpan (l : Launch) (G : Gt) (S : St) (q : Int) (a : Int) (b : Int) (hI : Inv S) (hq : 0 ≤ q ∧ q < 12) (hm : S 11 q.toNat < 4) (ha : 0 ≤ a ∧ a ≤ 100000) (hb : 0 ≤ b ∧ b ≤ 100000) : Met l y_pc_addSpan [.code y_pc_addSpan b_pc_addSpan 5 none] { frames := 0, cells := 0, slots := 0, locals := 0 } (va_Pc [.ref (G.2.1 1), .int (iI (q)), .int (iI (a)), .int (iI (b))] (fun U => wu G S U)) (qV G (aSp S q a b)) 0 0 (gA G) := by
  refine mt_of (by decide +kernel) (Nat.le_of_ble_eq_true rfl) ?_
  intro p e s m below meth c ls hadm hC hr hlk hex hw hl
  have hC : CallFix p m c b_pc_addSpan 5 s _ tws "ChannelRules$Pieces" := hC
  have hl : lv_has ls 5 [(0, .ref (G.2.1 1)), (1, .int (iI (q))), (2, .int (iI (a))), (3, .int (iI (b)))] := hl
  have i11 := iv_11 hI q.toNat
  refine lv_iload_n hC.1 hC.2.1 d_pc_addSpan_0 rfl (lv_at hl 1 rfl) ?_
  refine lv_iconst (v := iI 4) hC.1 hC.2.1 d_pc_addSpan_1 rfl ?_
  refine ir_mul hC.1 hC.2.1 d_pc_addSpan_2 ?_
  refine lv_aload_n hC.1 hC.2.1 d_pc_addSpan_3 rfl (lv_at hl 0 rfl) ?_
  refine gf_pc_31 hC hw d_pc_addSpan_4 ?_
  refine lv_iload_n hC.1 hC.2.1 d_pc_addSpan_7 rfl (lv_at hl 1 rfl) ?_
  refine ld_11 hC hw (by omega) (by omega) d_pc_addSpan_8 ?_
  have b_1 := iv_11 hI q.toNat
  refine ir_add hC.1 hC.2.1 d_pc_addSpan_9 ?_
  refine lv_istore (lv' := [(4, .int (iI ((q * 4) + (S 11 q.toNat)))), (0, .ref (G.2.1 1)), (1, .int (iI (q))), (2, .int (iI (a))), (3, .int (iI (b)))]) hC.1 hC.2.1 d_pc_addSpan_10 hl (by decide) rfl (fun ls hl => ?_)
  refine lv_aload_n hC.1 hC.2.1 d_pc_addSpan_12 rfl (lv_at hl 1 rfl) ?_
  refine gf_pc_34 hC hw d_pc_addSpan_13 ?_
  refine lv_iload hC.1 hC.2.1 d_pc_addSpan_16 (lv_at hl 0 rfl) ?_
  refine lv_iload_n hC.1 hC.2.1 d_pc_addSpan_18 rfl (lv_at hl 3 rfl) ?_
  refine st_12 (x := a) (z := (q * 4) + (S 11 q.toNat)) hC hw (by omega) (by omega) d_pc_addSpan_19 (fun H locs hw => ?_)
  have hI_2 := Inv.up (q := 12) (i := ((q * 4) + (S 11 q.toNat)).toNat) (x := a) hI (by omega) (show _ ≤ 100000 from by omega)
  refine lv_aload_n hC.1 hC.2.1 d_pc_addSpan_20 rfl (lv_at hl 1 rfl) ?_
  refine gf_pc_37 hC hw d_pc_addSpan_21 ?_
  refine lv_iload hC.1 hC.2.1 d_pc_addSpan_24 (lv_at hl 0 rfl) ?_
  refine lv_iload_n hC.1 hC.2.1 d_pc_addSpan_26 rfl (lv_at hl 4 rfl) ?_
  refine st_13 (x := b) (z := (q * 4) + (S 11 q.toNat)) hC hw (by omega) (by omega) d_pc_addSpan_27 (fun H locs hw => ?_)
  have hI_3 := Inv.up (q := 13) (i := ((q * 4) + (S 11 q.toNat)).toNat) (x := b) hI_2 (by omega) (show _ ≤ 100000 from by omega)
  refine lv_aload_n hC.1 hC.2.1 d_pc_addSpan_28 rfl (lv_at hl 1 rfl) ?_
  refine gf_pc_31 hC hw d_pc_addSpan_29 ?_
  refine lv_iload_n hC.1 hC.2.1 d_pc_addSpan_32 rfl (lv_at hl 2 rfl) ?_
  refine lv_dup2_11 hC.1 hC.2.1 d_pc_addSpan_33 rfl rfl ?_
  refine ld_11 hC hw (by omega) (by omega) d_pc_addSpan_34 ?_
  have b_4 := iv_11 hI_3 q.toNat
  refine lv_iconst (v := iI 1) hC.1 hC.2.1 d_pc_addSpan_35 rfl ?_
  refine ir_add hC.1 hC.2.1 d_pc_addSpan_36 ?_
  refine st_11 (x := ((s_up (s_up S 12 ((q * 4) + (S 11 q.toNat)).toNat a) 13 ((q * 4) + (S 11 q.toNat)).toNat b) 11 q.toNat) + 1) (z := q) hC hw (by omega) (by omega) d_pc_addSpan_37 (fun H locs hw => ?_)
  exact rt_V hC hr hlk hw (by simp [aSp, s_up_cell]) d_pc_addSpan_38
set_option maxHeartbeats 4000000 in
set_option maxRecDepth 100000 in
theorem c_ps_addStay (l : Launch) (G : Gt) (S : St) (q : Int) (f : Int) (t : Int) (hI : Inv S) (hq : 0 ≤ q ∧ q < 12) (hf : f = 0 ∨ f = 1) (ht : 0 ≤ t ∧ t ≤ 100) (hm : S 20 0 < 7) : Met l y_ps_addStay [.code y_ps_addStay b_ps_addStay 5 none] { frames := 0, cells := 0, slots := 0, locals := 0 } (va_Pc [.ref (G.2.1 3), .int (iI (q)), .int (iI (f)), .int (iI (t))] (fun U => wu G S U)) (qV G (aSt S q f t)) 0 0 (gA G) := by
  refine mt_of (by decide +kernel) (Nat.le_of_ble_eq_true rfl) ?_
  intro p e s m below meth c ls hadm hC hr hlk hex hw hl
  have hC : CallFix p m c b_ps_addStay 5 s _ tws "ChannelRules$Passages" := hC
  have hl : lv_has ls 5 [(0, .ref (G.2.1 3)), (1, .int (iI (q))), (2, .int (iI (f))), (3, .int (iI (t)))] := hl
  have i20 := iv_20 hI 0
  refine lv_aload_n hC.1 hC.2.1 d_ps_addStay_0 rfl (lv_at hl 0 rfl) ?_
  refine gf_ps_26 hC hw d_ps_addStay_1 ?_
  refine lv_iconst (v := iI 0) hC.1 hC.2.1 d_ps_addStay_4 rfl ?_
  refine lc_20 0 hC hw (by decide) d_ps_addStay_5 ?_
  have b_1 := iv_20 hI 0
  refine lv_istore (lv' := [(4, .int (iI (S 20 0))), (0, .ref (G.2.1 3)), (1, .int (iI (q))), (2, .int (iI (f))), (3, .int (iI (t)))]) hC.1 hC.2.1 d_ps_addStay_6 hl (by decide) rfl (fun ls hl => ?_)
  refine lv_aload_n hC.1 hC.2.1 d_ps_addStay_8 rfl (lv_at hl 1 rfl) ?_
  refine gf_ps_29 hC hw d_ps_addStay_9 ?_
  refine lv_iconst (v := iI 0) hC.1 hC.2.1 d_ps_addStay_12 rfl ?_
  refine lv_iload hC.1 hC.2.1 d_ps_addStay_13 (lv_at hl 0 rfl) ?_
  refine ir_add hC.1 hC.2.1 d_ps_addStay_15 ?_
  refine lv_iload_n hC.1 hC.2.1 d_ps_addStay_16 rfl (lv_at hl 2 rfl) ?_
  refine st_21 (x := q) (z := 0 + (S 20 0)) hC hw (by omega) (by omega) d_ps_addStay_17 (fun H locs hw => ?_)
  have hI_2 := Inv.up (q := 21) (i := (0 + (S 20 0)).toNat) (x := q) hI (by omega) (show _ ≤ 11 from by omega)
  refine lv_aload_n hC.1 hC.2.1 d_ps_addStay_18 rfl (lv_at hl 1 rfl) ?_
  refine gf_ps_32 hC hw d_ps_addStay_19 ?_
  refine lv_iconst (v := iI 0) hC.1 hC.2.1 d_ps_addStay_22 rfl ?_
  refine lv_iload hC.1 hC.2.1 d_ps_addStay_23 (lv_at hl 0 rfl) ?_
  refine ir_add hC.1 hC.2.1 d_ps_addStay_25 ?_
  refine lv_iload_n hC.1 hC.2.1 d_ps_addStay_26 rfl (lv_at hl 3 rfl) ?_
  refine st_22 (x := f) (z := 0 + (S 20 0)) hC hw (by omega) (by omega) (by omega) d_ps_addStay_27 (fun H locs hw => ?_)
  have hI_3 := Inv.up (q := 22) (i := (0 + (S 20 0)).toNat) (x := f) hI_2 (by omega) (show _ ≤ 1 from by omega)
  refine lv_aload_n hC.1 hC.2.1 d_ps_addStay_28 rfl (lv_at hl 1 rfl) ?_
  refine gf_ps_35 hC hw d_ps_addStay_29 ?_
  refine lv_iconst (v := iI 0) hC.1 hC.2.1 d_ps_addStay_32 rfl ?_
  refine lv_iload hC.1 hC.2.1 d_ps_addStay_33 (lv_at hl 0 rfl) ?_
  refine ir_add hC.1 hC.2.1 d_ps_addStay_35 ?_
  refine lv_iconst (v := iI 1) hC.1 hC.2.1 d_ps_addStay_36 rfl ?_
  refine ir_add hC.1 hC.2.1 d_ps_addStay_37 ?_
  refine lv_aload_n hC.1 hC.2.1 d_ps_addStay_38 rfl (lv_at hl 1 rfl) ?_
  refine gf_ps_35 hC hw d_ps_addStay_39 ?_
  refine lv_iconst (v := iI 0) hC.1 hC.2.1 d_ps_addStay_42 rfl ?_
  refine lv_iload hC.1 hC.2.1 d_ps_addStay_43 (lv_at hl 0 rfl) ?_
  refine ir_add hC.1 hC.2.1 d_ps_addStay_45 ?_
  refine ld_23 hC hw (by omega) (by omega) d_ps_addStay_46 ?_
  have b_4 := iv_23x hI_3 ((0 + (S 20 0)).toNat)
  refine lv_iload_n hC.1 hC.2.1 d_ps_addStay_47 rfl (lv_at hl 4 rfl) ?_
  refine ir_add hC.1 hC.2.1 d_ps_addStay_48 ?_
  refine st_23 (x := ((s_up (s_up S 21 (0 + (S 20 0)).toNat q) 22 (0 + (S 20 0)).toNat f) 23 (0 + (S 20 0)).toNat) + t) (z := (0 + (S 20 0)) + 1) hC hw (by omega) (by omega) d_ps_addStay_49 (fun H locs hw => ?_)
  have hI_5 := Inv.up (q := 23) (i := ((0 + (S 20 0)) + 1).toNat) (x := ((s_up (s_up S 21 (0 + (S 20 0)).toNat q) 22 (0 + (S 20 0)).toNat f) 23 (0 + (S 20 0)).toNat) + t) hI_3 (by omega) (show _ ≤ 100 * (((((0 + (S 20 0)) + 1).toNat) % 8 : Nat) : Int) from by omega)
  refine lv_aload_n hC.1 hC.2.1 d_ps_addStay_50 rfl (lv_at hl 1 rfl) ?_
  refine gf_ps_38 hC hw d_ps_addStay_51 ?_
  refine lv_iconst (v := iI 0) hC.1 hC.2.1 d_ps_addStay_54 rfl ?_
  refine lv_iload_n hC.1 hC.2.1 d_ps_addStay_55 rfl (lv_at hl 2 rfl) ?_
  refine ir_add hC.1 hC.2.1 d_ps_addStay_56 ?_
  refine lv_iload hC.1 hC.2.1 d_ps_addStay_57 (lv_at hl 0 rfl) ?_
  refine lv_iconst (v := iI 1) hC.1 hC.2.1 d_ps_addStay_59 rfl ?_
  refine ir_add hC.1 hC.2.1 d_ps_addStay_60 ?_
  refine st_24 (x := (S 20 0) + 1) (z := 0 + q) hC hw (by omega) (by omega) d_ps_addStay_61 (fun H locs hw => ?_)
  have hI_6 := Inv.up (q := 24) (i := (0 + q).toNat) (x := (S 20 0) + 1) hI_5 (by omega) (show _ ≤ 7 from by omega)
  refine lv_aload_n hC.1 hC.2.1 d_ps_addStay_62 rfl (lv_at hl 1 rfl) ?_
  refine gf_ps_26 hC hw d_ps_addStay_63 ?_
  refine lv_iconst (v := iI 0) hC.1 hC.2.1 d_ps_addStay_66 rfl ?_
  refine lv_dup2_11 hC.1 hC.2.1 d_ps_addStay_67 rfl rfl ?_
  refine lc_20 0 hC hw (by decide) d_ps_addStay_68 ?_
  have b_7 := iv_20 hI_6 0
  refine lv_iconst (v := iI 1) hC.1 hC.2.1 d_ps_addStay_69 rfl ?_
  refine ir_add hC.1 hC.2.1 d_ps_addStay_70 ?_
  refine sc_20 0 (x := ((s_up (s_up (s_up (s_up S 21 (0 + (S 20 0)).toNat q) 22 (0 + (S 20 0)).toNat f) 23 ((0 + (S 20 0)) + 1).toNat (((s_up (s_up S 21 (0 + (S 20 0)).toNat q) 22 (0 + (S 20 0)).toNat f) 23 (0 + (S 20 0)).toNat) + t)) 24 (0 + q).toNat ((S 20 0) + 1)) 20 0) + 1) hC hw (by decide) d_ps_addStay_71 (fun H locs hw => ?_)
  exact rt_V hC hr hlk hw (by simp [aSt, s_up_cell]) d_ps_addStay_72
set_option maxHeartbeats 4000000 in
set_option maxRecDepth 100000 in
theorem c_ps_startPlan (l : Launch) (G : Gt) (S : St) (sh : Int) (hI : Inv S) (hsh : 0 ≤ sh ∧ sh < 12) : Met l y_ps_startPlan [.code y_ps_startPlan b_ps_startPlan 3 none] { frames := 0, cells := 0, slots := 0, locals := 0 } (va_Pc [.ref (G.2.1 3), .int (iI (sh))] (fun U => wu G S U)) (qV G (sPk S sh 12)) 0 0 (gA G) := by
  refine mt_of (by decide +kernel) (Nat.le_of_ble_eq_true rfl) ?_
  intro p e s m below meth c ls hadm hC hr hlk hex hw hl
  have hC : CallFix p m c b_ps_startPlan 3 s _ tws "ChannelRules$Passages" := hC
  have hl : lv_has ls 3 [(0, .ref (G.2.1 3)), (1, .int (iI (sh)))] := hl
  refine lv_aload_n hC.1 hC.2.1 d_ps_startPlan_0 rfl (lv_at hl 0 rfl) ?_
  refine gf_ps_19 hC hw d_ps_startPlan_1 ?_
  refine lv_iconst (v := iI 0) hC.1 hC.2.1 d_ps_startPlan_4 rfl ?_
  refine lv_iload_n hC.1 hC.2.1 d_ps_startPlan_5 rfl (lv_at hl 1 rfl) ?_
  refine sc_18 0 (x := sh) hC hw (by decide) d_ps_startPlan_6 (fun H locs hw => ?_)
  have hI_1 := Inv.up (q := 18) (i := 0) (x := sh) hI (by omega) (show _ ≤ 11 from by omega)
  refine lv_aload_n hC.1 hC.2.1 d_ps_startPlan_7 rfl (lv_at hl 0 rfl) ?_
  refine gf_ps_23 hC hw d_ps_startPlan_8 ?_
  refine lv_iconst (v := iI 0) hC.1 hC.2.1 d_ps_startPlan_11 rfl ?_
  refine lv_iconst (v := iI 0) hC.1 hC.2.1 d_ps_startPlan_12 rfl ?_
  refine sc_19 0 (x := 0) hC hw (by decide) d_ps_startPlan_13 (fun H locs hw => ?_)
  have hI_2 := Inv.up (q := 19) (i := 0) (x := 0) hI_1 (by omega) (show _ ≤ 100000 from by omega)
  refine lv_aload_n hC.1 hC.2.1 d_ps_startPlan_14 rfl (lv_at hl 0 rfl) ?_
  refine gf_ps_26 hC hw d_ps_startPlan_15 ?_
  refine lv_iconst (v := iI 0) hC.1 hC.2.1 d_ps_startPlan_18 rfl ?_
  refine lv_iconst (v := iI 0) hC.1 hC.2.1 d_ps_startPlan_19 rfl ?_
  refine sc_20 0 (x := 0) hC hw (by decide) d_ps_startPlan_20 (fun H locs hw => ?_)
  have hI_3 := Inv.up (q := 20) (i := 0) (x := 0) hI_2 (by omega) (show _ ≤ 7 from by omega)
  refine lv_iconst (v := iI 0) hC.1 hC.2.1 d_ps_startPlan_21 rfl ?_
  refine lv_istore_n (lv' := [(2, .int (iI (0))), (0, .ref (G.2.1 3)), (1, .int (iI (sh)))]) hC.1 hC.2.1 d_ps_startPlan_22 rfl hl (by decide) rfl (fun ls hl => ?_)
  have loop_23 : ∀ (nn : Nat) (k : Nat) (x2 : Int), 12 - k < nn → x2 = (k : Int) → k ≤ 12 → ∀ (H : Heap) (locs : List Loc) (ls : Array Slot), wh G (sPk S sh k) s H locs → lv_has ls 3 [(2, .int (iI (x2))), (0, .ref (G.2.1 3)), (1, .int (iI (sh)))] → W p l e { frames := 0, cells := 0, slots := 0, locals := 0 } s m ([.ref (G.2.1 3), .int (iI (sh))] : List Value).toArray below meth c H locs 0 0 (MQ below (qV G (sPk S sh 12)) ([.ref (G.2.1 3), .int (iI (sh))] : List Value).toArray s 0 0 (gA G)) (F0 m 23 ls []) := by
    intro nn
    induction nn with
    | zero => intros; omega
    | succ nn ih_23 =>
      intro k x2 hms_23 hx2 hv0 H locs ls hw hl
      refine lv_iload_n hC.1 hC.2.1 d_ps_startPlan_23 rfl (lv_at hl 0 rfl) ?_
      refine lv_bipush (v := iI 12) hC.1 hC.2.1 d_ps_startPlan_24 (by decide +kernel) ?_
      refine ir_ge (tgt := 44) hC.1 hC.2.1 d_ps_startPlan_26 (by decide) ⟨by omega, by omega⟩ (by decide) (fun c_4 => ?_) (fun c_4 => ?_)
      · skip
        exact rt_V hC hr hlk hw (by rw [show k = 12 by omega]) d_ps_startPlan_44
      · skip
        refine lv_aload_n hC.1 hC.2.1 d_ps_startPlan_29 rfl (lv_at hl 1 rfl) ?_
        refine gf_ps_38 hC hw d_ps_startPlan_30 ?_
        refine lv_iconst (v := iI 0) hC.1 hC.2.1 d_ps_startPlan_33 rfl ?_
        refine lv_iload_n hC.1 hC.2.1 d_ps_startPlan_34 rfl (lv_at hl 0 rfl) ?_
        refine ir_add hC.1 hC.2.1 d_ps_startPlan_35 ?_
        refine lv_iconst (v := iI 0) hC.1 hC.2.1 d_ps_startPlan_36 rfl ?_
        refine st_24 (x := 0) (z := 0 + x2) hC hw (by omega) (by omega) d_ps_startPlan_37 (fun H locs hw => ?_)
        have hI_5 := Inv.up (q := 24) (i := (0 + x2).toNat) (x := 0) (sPk_I (sh := sh) hI (by omega) k) (by omega) (show _ ≤ 7 from by omega)
        refine lv_iinc (v := iI (x2 + 1)) (lv' := [(2, .int (iI (x2 + 1))), (0, .ref (G.2.1 3)), (1, .int (iI (sh)))]) hC.1 hC.2.1 d_ps_startPlan_38 hl (k := 0) rfl (iI_add _ _) (by decide) rfl (fun ls hl => ?_)
        refine lv_goto (tgt := 23) hC.1 hC.2.1 d_ps_startPlan_41 (by decide) ?_
        exact ih_23 (k + 1) _ (by omega) (by first | rfl | omega) (by omega) _ _ _ (by have e : (0 + x2).toNat = k := (by omega); rw [e] at hw; exact hw) (lv_sub hl [0, 1, 2] rfl)
  exact loop_23 _ 0 _ (Nat.lt_succ_self _) (by first | rfl | omega) (by omega) _ _ _ hw (lv_sub hl [0, 1, 2] rfl)
set_option maxHeartbeats 4000000 in
set_option maxRecDepth 100000 in
theorem c_cr_shortenBy (l : Launch) (G : Gt) (S : St) (q : Int) (t : Int) (hI : Inv S) (hq : 0 ≤ q ∧ q < 12) (ht : 0 ≤ t ∧ t ≤ 1000000) : Met l y_cr_shortenBy [.code y_cr_shortenBy b_cr_shortenBy 5 none] { frames := 1, cells := 0, slots := 0, locals := 22 } (va_Pc [.ref (G.2.1 0), .int (iI (q)), .int (iI (t))] (fun U => wu G S U)) (qV G (sBy S q t)) 0 0 (gA G) := by
  refine mt_of (by decide +kernel) (Nat.le_of_ble_eq_true rfl) ?_
  intro p e s m below meth c ls hadm hC hr hlk hex hw hl
  have hC : CallFix p m c b_cr_shortenBy 5 s _ tws "ChannelRules" := hC
  have hl : lv_has ls 5 [(0, .ref (G.2.1 0)), (1, .int (iI (q))), (2, .int (iI (t)))] := hl
  refine lv_aload_n hC.1 hC.2.1 d_cr_shortenBy_0 rfl (lv_at hl 0 rfl) ?_
  refine gf_cr_12 hC hw d_cr_shortenBy_1 ?_
  refine gf_cr_197 hC hw d_cr_shortenBy_4 ?_
  refine lv_iload_n hC.1 hC.2.1 d_cr_shortenBy_7 rfl (lv_at hl 1 rfl) ?_
  refine ld_6 hC hw (by omega) (by omega) d_cr_shortenBy_8 ?_
  have b_1 := iv_6 hI q.toNat
  refine lv_istore_n (lv' := [(3, .int (iI (S 6 q.toNat))), (0, .ref (G.2.1 0)), (1, .int (iI (q))), (2, .int (iI (t)))]) hC.1 hC.2.1 d_cr_shortenBy_9 rfl hl (by decide) rfl (fun ls hl => ?_)
  refine lv_aload_n hC.1 hC.2.1 d_cr_shortenBy_10 rfl (lv_at hl 1 rfl) ?_
  refine gf_cr_12 hC hw d_cr_shortenBy_11 ?_
  refine gf_cr_217 hC hw d_cr_shortenBy_14 ?_
  refine lv_iload_n hC.1 hC.2.1 d_cr_shortenBy_17 rfl (lv_at hl 2 rfl) ?_
  refine ld_7 hC hw (by omega) (by omega) d_cr_shortenBy_18 ?_
  have b_2 := iv_7 hI q.toNat
  refine lv_istore (lv' := [(4, .int (iI (S 7 q.toNat))), (3, .int (iI (S 6 q.toNat))), (0, .ref (G.2.1 0)), (1, .int (iI (q))), (2, .int (iI (t)))]) hC.1 hC.2.1 d_cr_shortenBy_19 hl (by decide) rfl (fun ls hl => ?_)
  refine lv_aload_n hC.1 hC.2.1 d_cr_shortenBy_21 rfl (lv_at hl 2 rfl) ?_
  refine gf_cr_30 hC hw d_cr_shortenBy_22 ?_
  refine lv_iload_n hC.1 hC.2.1 d_cr_shortenBy_25 rfl (lv_at hl 1 rfl) ?_
  refine lv_aload_n hC.1 hC.2.1 d_cr_shortenBy_26 rfl (lv_at hl 2 rfl) ?_
  refine gf_cr_30 hC hw d_cr_shortenBy_27 ?_
  refine lv_iload_n hC.1 hC.2.1 d_cr_shortenBy_30 rfl (lv_at hl 1 rfl) ?_
  refine ld_4 hC hw (by omega) (by omega) d_cr_shortenBy_31 ?_
  have b_3 := iv_4 hI ((S 6 q.toNat).toNat)
  refine lv_aload_n hC.1 hC.2.1 d_cr_shortenBy_32 rfl (lv_at hl 2 rfl) ?_
  refine gf_cr_30 hC hw d_cr_shortenBy_33 ?_
  refine lv_iload hC.1 hC.2.1 d_cr_shortenBy_36 (lv_at hl 0 rfl) ?_
  refine ld_4 hC hw (by omega) (by omega) d_cr_shortenBy_38 ?_
  have b_4 := iv_4 hI ((S 7 q.toNat).toNat)
  refine lv_iload_n hC.1 hC.2.1 d_cr_shortenBy_39 rfl (lv_at hl 4 rfl) ?_
  refine ir_add hC.1 hC.2.1 d_cr_shortenBy_40 ?_
  refine ir_min hC tw_401 tw_402 tw_11 tw_403 hl.1 (Nat.le_of_ble_eq_true rfl) (Nat.le_of_ble_eq_true rfl) (Nat.zero_le _) (Nat.zero_le _) ⟨by omega, by omega⟩ ⟨by omega, by omega⟩ d_cr_shortenBy_41 ?_
  refine st_4 (x := min (S 4 (S 6 q.toNat).toNat) ((S 4 (S 7 q.toNat).toNat) + t)) (z := S 6 q.toNat) hC hw (by omega) (by omega) d_cr_shortenBy_44 (fun H locs hw => ?_)
  have hI_5 := Inv.up (q := 4) (i := (S 6 q.toNat).toNat) (x := min (S 4 (S 6 q.toNat).toNat) ((S 4 (S 7 q.toNat).toNat) + t)) hI (by omega) (show _ ≤ 1000000 from by omega)
  refine lv_aload_n hC.1 hC.2.1 d_cr_shortenBy_45 rfl (lv_at hl 2 rfl) ?_
  refine gf_cr_30 hC hw d_cr_shortenBy_46 ?_
  refine lv_iload hC.1 hC.2.1 d_cr_shortenBy_49 (lv_at hl 0 rfl) ?_
  refine lv_aload_n hC.1 hC.2.1 d_cr_shortenBy_51 rfl (lv_at hl 2 rfl) ?_
  refine gf_cr_30 hC hw d_cr_shortenBy_52 ?_
  refine lv_iload hC.1 hC.2.1 d_cr_shortenBy_55 (lv_at hl 0 rfl) ?_
  refine ld_4 hC hw (by omega) (by omega) d_cr_shortenBy_57 ?_
  have b_6 := iv_4 hI_5 ((S 7 q.toNat).toNat)
  refine lv_aload_n hC.1 hC.2.1 d_cr_shortenBy_58 rfl (lv_at hl 2 rfl) ?_
  refine gf_cr_30 hC hw d_cr_shortenBy_59 ?_
  refine lv_iload_n hC.1 hC.2.1 d_cr_shortenBy_62 rfl (lv_at hl 1 rfl) ?_
  refine ld_4 hC hw (by omega) (by omega) d_cr_shortenBy_63 ?_
  have b_7 := iv_4 hI_5 ((S 6 q.toNat).toNat)
  refine lv_iload_n hC.1 hC.2.1 d_cr_shortenBy_64 rfl (lv_at hl 4 rfl) ?_
  refine ir_add hC.1 hC.2.1 d_cr_shortenBy_65 ?_
  refine ir_min hC tw_401 tw_402 tw_11 tw_403 hl.1 (Nat.le_of_ble_eq_true rfl) (Nat.le_of_ble_eq_true rfl) (Nat.zero_le _) (Nat.zero_le _) ⟨by omega, by omega⟩ ⟨by omega, by omega⟩ d_cr_shortenBy_66 ?_
  refine st_4 (x := min ((s_up S 4 (S 6 q.toNat).toNat (min (S 4 (S 6 q.toNat).toNat) ((S 4 (S 7 q.toNat).toNat) + t))) 4 (S 7 q.toNat).toNat) (((s_up S 4 (S 6 q.toNat).toNat (min (S 4 (S 6 q.toNat).toNat) ((S 4 (S 7 q.toNat).toNat) + t))) 4 (S 6 q.toNat).toNat) + t)) (z := S 7 q.toNat) hC hw (by omega) (by omega) d_cr_shortenBy_69 (fun H locs hw => ?_)
  have hI_8 := Inv.up (q := 4) (i := (S 7 q.toNat).toNat) (x := min ((s_up S 4 (S 6 q.toNat).toNat (min (S 4 (S 6 q.toNat).toNat) ((S 4 (S 7 q.toNat).toNat) + t))) 4 (S 7 q.toNat).toNat) (((s_up S 4 (S 6 q.toNat).toNat (min (S 4 (S 6 q.toNat).toNat) ((S 4 (S 7 q.toNat).toNat) + t))) 4 (S 6 q.toNat).toNat) + t)) hI_5 (by omega) (show _ ≤ 1000000 from by omega)
  exact rt_V hC hr hlk hw rfl d_cr_shortenBy_70
set_option maxHeartbeats 4000000 in
set_option maxRecDepth 100000 in
theorem c_ps_giveSlot (l : Launch) (G : Gt) (S : St) (hI : Inv S) (hm : S 3 0 < 30) : Met l y_ps_giveSlot [.code y_ps_giveSlot b_ps_giveSlot 3 (some .int)] { frames := 1, cells := 0, slots := 0, locals := 22 } (va_Pc [.ref (G.2.1 3)] (fun U => wu G S U)) (qW G (gvg S 12) (gva S 3 0)) 0 0 (gA G) := by
  refine mt_of (by decide +kernel) (Nat.le_of_ble_eq_true rfl) ?_
  intro p e s m below meth c ls hadm hC hr hlk hex hw hl
  have hC : CallFix p m c b_ps_giveSlot 3 s _ tws "ChannelRules$Passages" := hC
  have hl : lv_has ls 3 [(0, .ref (G.2.1 3))] := hl
  have i3 := iv_3 hI 0
  have e0 : gva S 3 0 = S 3 0 + 1 := by simp [gva, s_up, va_up]
  have gb := iv_20 (gve_I hI hm) 0
  refine lv_aload_n hC.1 hC.2.1 d_ps_giveSlot_0 rfl (lv_at hl 0 rfl) ?_
  refine lv_dup hC.1 hC.2.1 d_ps_giveSlot_1 rfl ?_
  refine gf_ps_9 hC hw d_ps_giveSlot_2 ?_
  have b_1 := iv_3 hI 0
  refine lv_iconst (v := iI 1) hC.1 hC.2.1 d_ps_giveSlot_5 rfl ?_
  refine ir_add hC.1 hC.2.1 d_ps_giveSlot_6 ?_
  refine pf_ps_9 (x := (S 3 0) + 1) hC hw d_ps_giveSlot_7 (fun H locs hw => ?_)
  have hI_2 := Inv.up (q := 3) (i := 0) (x := (S 3 0) + 1) hI (by omega) (show _ ≤ 30 from by omega)
  refine lv_aload_n hC.1 hC.2.1 d_ps_giveSlot_10 rfl (lv_at hl 0 rfl) ?_
  refine gf_ps_9 hC hw d_ps_giveSlot_11 ?_
  have b_3 := iv_3 hI_2 0
  refine lv_istore_n (lv' := [(1, .int (iI ((s_up S 3 0 ((S 3 0) + 1)) 3 0))), (0, .ref (G.2.1 3))]) hC.1 hC.2.1 d_ps_giveSlot_14 rfl hl (by decide) rfl (fun ls hl => ?_)
  refine lv_aload_n hC.1 hC.2.1 d_ps_giveSlot_15 rfl (lv_at hl 1 rfl) ?_
  refine gf_ps_15 hC hw d_ps_giveSlot_16 ?_
  refine lv_iload_n hC.1 hC.2.1 d_ps_giveSlot_19 rfl (lv_at hl 0 rfl) ?_
  refine lv_iconst (v := iI 1) hC.1 hC.2.1 d_ps_giveSlot_20 rfl ?_
  refine st_17 (x := 1) (z := (s_up S 3 0 ((S 3 0) + 1)) 3 0) hC hw (by omega) (by omega) (by omega) d_ps_giveSlot_21 (fun H locs hw => ?_)
  have hI_4 := Inv.up (q := 17) (i := ((s_up S 3 0 ((S 3 0) + 1)) 3 0).toNat) (x := 1) hI_2 (by omega) (show _ ≤ 1 from by omega)
  refine lv_aload_n hC.1 hC.2.1 d_ps_giveSlot_22 rfl (lv_at hl 1 rfl) ?_
  refine gf_ps_19 hC hw d_ps_giveSlot_23 ?_
  refine lv_iload_n hC.1 hC.2.1 d_ps_giveSlot_26 rfl (lv_at hl 0 rfl) ?_
  refine lv_aload_n hC.1 hC.2.1 d_ps_giveSlot_27 rfl (lv_at hl 1 rfl) ?_
  refine gf_ps_19 hC hw d_ps_giveSlot_28 ?_
  refine lv_iconst (v := iI 0) hC.1 hC.2.1 d_ps_giveSlot_31 rfl ?_
  refine lc_18 0 hC hw (by decide) d_ps_giveSlot_32 ?_
  have b_5 := iv_18 hI_4 0
  refine st_18 (x := (s_up (s_up S 3 0 ((S 3 0) + 1)) 17 ((s_up S 3 0 ((S 3 0) + 1)) 3 0).toNat 1) 18 0) (z := (s_up S 3 0 ((S 3 0) + 1)) 3 0) hC hw (by omega) (by omega) d_ps_giveSlot_33 (fun H locs hw => ?_)
  have hI_6 := Inv.up (q := 18) (i := ((s_up S 3 0 ((S 3 0) + 1)) 3 0).toNat) (x := (s_up (s_up S 3 0 ((S 3 0) + 1)) 17 ((s_up S 3 0 ((S 3 0) + 1)) 3 0).toNat 1) 18 0) hI_4 (by omega) (show _ ≤ 11 from by omega)
  refine lv_aload_n hC.1 hC.2.1 d_ps_giveSlot_34 rfl (lv_at hl 1 rfl) ?_
  refine gf_ps_23 hC hw d_ps_giveSlot_35 ?_
  refine lv_iload_n hC.1 hC.2.1 d_ps_giveSlot_38 rfl (lv_at hl 0 rfl) ?_
  refine lv_aload_n hC.1 hC.2.1 d_ps_giveSlot_39 rfl (lv_at hl 1 rfl) ?_
  refine gf_ps_23 hC hw d_ps_giveSlot_40 ?_
  refine lv_iconst (v := iI 0) hC.1 hC.2.1 d_ps_giveSlot_43 rfl ?_
  refine lc_19 0 hC hw (by decide) d_ps_giveSlot_44 ?_
  have b_7 := iv_19 hI_6 0
  refine st_19 (x := (s_up (s_up (s_up S 3 0 ((S 3 0) + 1)) 17 ((s_up S 3 0 ((S 3 0) + 1)) 3 0).toNat 1) 18 ((s_up S 3 0 ((S 3 0) + 1)) 3 0).toNat ((s_up (s_up S 3 0 ((S 3 0) + 1)) 17 ((s_up S 3 0 ((S 3 0) + 1)) 3 0).toNat 1) 18 0)) 19 0) (z := (s_up S 3 0 ((S 3 0) + 1)) 3 0) hC hw (by omega) (by omega) d_ps_giveSlot_45 (fun H locs hw => ?_)
  have hI_8 := Inv.up (q := 19) (i := ((s_up S 3 0 ((S 3 0) + 1)) 3 0).toNat) (x := (s_up (s_up (s_up S 3 0 ((S 3 0) + 1)) 17 ((s_up S 3 0 ((S 3 0) + 1)) 3 0).toNat 1) 18 ((s_up S 3 0 ((S 3 0) + 1)) 3 0).toNat ((s_up (s_up S 3 0 ((S 3 0) + 1)) 17 ((s_up S 3 0 ((S 3 0) + 1)) 3 0).toNat 1) 18 0)) 19 0) hI_6 (by omega) (show _ ≤ 100000 from by omega)
  refine lv_aload_n hC.1 hC.2.1 d_ps_giveSlot_46 rfl (lv_at hl 1 rfl) ?_
  refine gf_ps_26 hC hw d_ps_giveSlot_47 ?_
  refine lv_iload_n hC.1 hC.2.1 d_ps_giveSlot_50 rfl (lv_at hl 0 rfl) ?_
  refine lv_aload_n hC.1 hC.2.1 d_ps_giveSlot_51 rfl (lv_at hl 1 rfl) ?_
  refine gf_ps_26 hC hw d_ps_giveSlot_52 ?_
  refine lv_iconst (v := iI 0) hC.1 hC.2.1 d_ps_giveSlot_55 rfl ?_
  refine lc_20 0 hC hw (by decide) d_ps_giveSlot_56 ?_
  have b_9 := iv_20 hI_8 0
  refine st_20 (x := (s_up (s_up (s_up (s_up S 3 0 ((S 3 0) + 1)) 17 ((s_up S 3 0 ((S 3 0) + 1)) 3 0).toNat 1) 18 ((s_up S 3 0 ((S 3 0) + 1)) 3 0).toNat ((s_up (s_up S 3 0 ((S 3 0) + 1)) 17 ((s_up S 3 0 ((S 3 0) + 1)) 3 0).toNat 1) 18 0)) 19 ((s_up S 3 0 ((S 3 0) + 1)) 3 0).toNat ((s_up (s_up (s_up S 3 0 ((S 3 0) + 1)) 17 ((s_up S 3 0 ((S 3 0) + 1)) 3 0).toNat 1) 18 ((s_up S 3 0 ((S 3 0) + 1)) 3 0).toNat ((s_up (s_up S 3 0 ((S 3 0) + 1)) 17 ((s_up S 3 0 ((S 3 0) + 1)) 3 0).toNat 1) 18 0)) 19 0)) 20 0) (z := (s_up S 3 0 ((S 3 0) + 1)) 3 0) hC hw (by omega) (by omega) d_ps_giveSlot_57 (fun H locs hw => ?_)
  have hI_10 := Inv.up (q := 20) (i := ((s_up S 3 0 ((S 3 0) + 1)) 3 0).toNat) (x := (s_up (s_up (s_up (s_up S 3 0 ((S 3 0) + 1)) 17 ((s_up S 3 0 ((S 3 0) + 1)) 3 0).toNat 1) 18 ((s_up S 3 0 ((S 3 0) + 1)) 3 0).toNat ((s_up (s_up S 3 0 ((S 3 0) + 1)) 17 ((s_up S 3 0 ((S 3 0) + 1)) 3 0).toNat 1) 18 0)) 19 ((s_up S 3 0 ((S 3 0) + 1)) 3 0).toNat ((s_up (s_up (s_up S 3 0 ((S 3 0) + 1)) 17 ((s_up S 3 0 ((S 3 0) + 1)) 3 0).toNat 1) 18 ((s_up S 3 0 ((S 3 0) + 1)) 3 0).toNat ((s_up (s_up S 3 0 ((S 3 0) + 1)) 17 ((s_up S 3 0 ((S 3 0) + 1)) 3 0).toNat 1) 18 0)) 19 0)) 20 0) hI_8 (by omega) (show _ ≤ 7 from by omega)
  refine lv_iconst (v := iI 0) hC.1 hC.2.1 d_ps_giveSlot_58 rfl ?_
  refine lv_istore_n (lv' := [(2, .int (iI (0))), (1, .int (iI ((s_up S 3 0 ((S 3 0) + 1)) 3 0))), (0, .ref (G.2.1 3))]) hC.1 hC.2.1 d_ps_giveSlot_59 rfl hl (by decide) rfl (fun ls hl => ?_)
  have loop_60 : ∀ (nn : Nat) (k : Nat) (x2 : Int), (gve S 20 0).toNat - k < nn → x2 = (k : Int) → (k : Int) ≤ gve S 20 0 → ∀ (H : Heap) (locs : List Loc) (ls : Array Slot), wh G (gvf S k) s H locs → lv_has ls 3 [(2, .int (iI (x2))), (1, .int (iI ((s_up S 3 0 ((S 3 0) + 1)) 3 0))), (0, .ref (G.2.1 3))] → W p l e { frames := 1, cells := 0, slots := 0, locals := 22 } s m ([.ref (G.2.1 3)] : List Value).toArray below meth c H locs 0 0 (MQ below (qW G (gvg S 12) (gva S 3 0)) ([.ref (G.2.1 3)] : List Value).toArray s 0 0 (gA G)) (F0 m 60 ls []) := by
    intro nn
    induction nn with
    | zero => intros; omega
    | succ nn ih_60 =>
      intro k x2 hms_60 hx2 hv0 H locs ls hw hl
      have gb := iv_20 (gve_I hI hm) 0
      have ek := gvf_20 S hm i3.1 k
      refine lv_iload_n hC.1 hC.2.1 d_ps_giveSlot_60 rfl (lv_at hl 0 rfl) ?_
      refine lv_aload_n hC.1 hC.2.1 d_ps_giveSlot_61 rfl (lv_at hl 2 rfl) ?_
      refine gf_ps_26 hC hw d_ps_giveSlot_62 ?_
      refine lv_iconst (v := iI 0) hC.1 hC.2.1 d_ps_giveSlot_65 rfl ?_
      refine lc_20 0 hC hw (by decide) d_ps_giveSlot_66 ?_
      have b_11 := iv_20 (gvf_I0 hI hm k (by omega)) 0
      refine ir_ge (tgt := 133) hC.1 hC.2.1 d_ps_giveSlot_67 (by decide) ⟨by omega, by omega⟩ ⟨by omega, by omega⟩ (fun c_12 => ?_) (fun c_12 => ?_)
      · skip
        refine lv_iconst (v := iI 0) hC.1 hC.2.1 d_ps_giveSlot_133 rfl ?_
        refine lv_istore_n (lv' := [(2, .int (iI (0))), (1, .int (iI ((s_up S 3 0 ((S 3 0) + 1)) 3 0))), (0, .ref (G.2.1 3))]) hC.1 hC.2.1 d_ps_giveSlot_134 rfl hl (by decide) rfl (fun ls hl => ?_)
        have loop_135 : ∀ (nn : Nat) (k : Nat) (x2 : Int), 12 - k < nn → x2 = (k : Int) → k ≤ 12 → ∀ (H : Heap) (locs : List Loc) (ls : Array Slot), wh G (gvg S k) s H locs → lv_has ls 3 [(2, .int (iI (x2))), (1, .int (iI ((s_up S 3 0 ((S 3 0) + 1)) 3 0))), (0, .ref (G.2.1 3))] → W p l e { frames := 1, cells := 0, slots := 0, locals := 22 } s m ([.ref (G.2.1 3)] : List Value).toArray below meth c H locs 0 0 (MQ below (qW G (gvg S 12) (gva S 3 0)) ([.ref (G.2.1 3)] : List Value).toArray s 0 0 (gA G)) (F0 m 135 ls []) := by
          intro nn
          induction nn with
          | zero => intros; omega
          | succ nn ih_135 =>
            intro k x2 hms_135 hx2 hv0 H locs ls hw hl
            refine lv_iload_n hC.1 hC.2.1 d_ps_giveSlot_135 rfl (lv_at hl 0 rfl) ?_
            refine lv_bipush (v := iI 12) hC.1 hC.2.1 d_ps_giveSlot_136 (by decide +kernel) ?_
            refine ir_ge (tgt := 166) hC.1 hC.2.1 d_ps_giveSlot_138 (by decide) ⟨by omega, by omega⟩ (by decide) (fun c_13 => ?_) (fun c_13 => ?_)
            · skip
              refine lv_iload_n hC.1 hC.2.1 d_ps_giveSlot_166 rfl (lv_at hl 1 rfl) ?_
              exact rt_W hC hr hlk hw rfl (by rw [show k = 12 by omega]) d_ps_giveSlot_167
            · skip
              refine lv_aload_n hC.1 hC.2.1 d_ps_giveSlot_141 rfl (lv_at hl 2 rfl) ?_
              refine gf_ps_38 hC hw d_ps_giveSlot_142 ?_
              refine lv_iload_n hC.1 hC.2.1 d_ps_giveSlot_145 rfl (lv_at hl 1 rfl) ?_
              refine lv_bipush (v := iI 12) hC.1 hC.2.1 d_ps_giveSlot_146 (by decide +kernel) ?_
              refine ir_mul hC.1 hC.2.1 d_ps_giveSlot_148 ?_
              refine lv_iload_n hC.1 hC.2.1 d_ps_giveSlot_149 rfl (lv_at hl 0 rfl) ?_
              refine ir_add hC.1 hC.2.1 d_ps_giveSlot_150 ?_
              refine lv_aload_n hC.1 hC.2.1 d_ps_giveSlot_151 rfl (lv_at hl 2 rfl) ?_
              refine gf_ps_38 hC hw d_ps_giveSlot_152 ?_
              refine lv_iconst (v := iI 0) hC.1 hC.2.1 d_ps_giveSlot_155 rfl ?_
              refine lv_iload_n hC.1 hC.2.1 d_ps_giveSlot_156 rfl (lv_at hl 0 rfl) ?_
              refine ir_add hC.1 hC.2.1 d_ps_giveSlot_157 ?_
              refine ld_24 hC hw (by omega) (by omega) d_ps_giveSlot_158 ?_
              have b_14 := iv_24 (gvg_I hI hm k) ((0 + x2).toNat)
              refine st_24 (x := (gvg S k) 24 (0 + x2).toNat) (z := (((s_up S 3 0 ((S 3 0) + 1)) 3 0) * 12) + x2) hC hw (by omega) (by omega) d_ps_giveSlot_159 (fun H locs hw => ?_)
              have hI_15 := Inv.up (q := 24) (i := ((((s_up S 3 0 ((S 3 0) + 1)) 3 0) * 12) + x2).toNat) (x := (gvg S k) 24 (0 + x2).toNat) (gvg_I hI hm k) (by omega) (show _ ≤ 7 from by omega)
              refine lv_iinc (v := iI (x2 + 1)) (lv' := [(2, .int (iI (x2 + 1))), (1, .int (iI ((s_up S 3 0 ((S 3 0) + 1)) 3 0))), (0, .ref (G.2.1 3))]) hC.1 hC.2.1 d_ps_giveSlot_160 hl (k := 0) rfl (iI_add _ _) (by decide) rfl (fun ls hl => ?_)
              refine lv_goto (tgt := 135) hC.1 hC.2.1 d_ps_giveSlot_163 (by decide) ?_
              exact ih_135 (k + 1) _ (by omega) (by first | rfl | omega) (by omega) _ _ _ (by rw [hx2] at hw; exact hw) (lv_sub hl [0, 1, 2] rfl)
        exact loop_135 _ 0 _ (Nat.lt_succ_self _) (by first | rfl | omega) (by omega) _ _ _ (by rw [show k = (gve S 20 0).toNat by omega] at hw; exact hw) (lv_sub hl [0, 1, 2] rfl)
      · skip
        refine lv_aload_n hC.1 hC.2.1 d_ps_giveSlot_70 rfl (lv_at hl 2 rfl) ?_
        refine gf_ps_29 hC hw d_ps_giveSlot_71 ?_
        refine lv_iload_n hC.1 hC.2.1 d_ps_giveSlot_74 rfl (lv_at hl 1 rfl) ?_
        refine lv_bipush (v := iI 7) hC.1 hC.2.1 d_ps_giveSlot_75 (by decide +kernel) ?_
        refine ir_mul hC.1 hC.2.1 d_ps_giveSlot_77 ?_
        refine lv_iload_n hC.1 hC.2.1 d_ps_giveSlot_78 rfl (lv_at hl 0 rfl) ?_
        refine ir_add hC.1 hC.2.1 d_ps_giveSlot_79 ?_
        refine lv_aload_n hC.1 hC.2.1 d_ps_giveSlot_80 rfl (lv_at hl 2 rfl) ?_
        refine lv_iconst (v := iI 0) hC.1 hC.2.1 d_ps_giveSlot_81 rfl ?_
        refine lv_iload_n hC.1 hC.2.1 d_ps_giveSlot_82 rfl (lv_at hl 0 rfl) ?_
        refine go_R (ca_V (As := [.int (iI (0)), .int (iI (x2))]) (rest := [.int (iI ((((s_up S 3 0 ((S 3 0) + 1)) 3 0) * 7) + x2)), .ref (G.2.1 21)]) hC hw (c_ps_pieceOf l G (gvf S k) 0 x2 (gvf_I0 hI hm k (by omega)) (by omega) (by omega)) (cv_ps_52 hC rfl rfl (Nat.le_of_ble_eq_true rfl) (Nat.le_of_ble_eq_true rfl)) (by decide) rfl rfl rfl hl.1 rfl (Nat.le_of_ble_eq_true rfl) d_ps_giveSlot_83 ⟨Nat.le_of_ble_eq_true rfl, Nat.le_of_ble_eq_true rfl⟩) ?_
        have r_16 := pOf_b (gvf_I0 hI hm k (by omega)) 0 x2
        refine st_21 (x := pOf (gvf S k) 0 x2) (z := (((s_up S 3 0 ((S 3 0) + 1)) 3 0) * 7) + x2) hC hw (by omega) (by omega) d_ps_giveSlot_86 (fun H locs hw => ?_)
        have hI_17 := Inv.up (q := 21) (i := ((((s_up S 3 0 ((S 3 0) + 1)) 3 0) * 7) + x2).toNat) (x := pOf (gvf S k) 0 x2) (gvf_I0 hI hm k (by omega)) (by omega) (show _ ≤ 11 from by omega)
        refine lv_aload_n hC.1 hC.2.1 d_ps_giveSlot_87 rfl (lv_at hl 2 rfl) ?_
        refine gf_ps_32 hC hw d_ps_giveSlot_88 ?_
        refine lv_iload_n hC.1 hC.2.1 d_ps_giveSlot_91 rfl (lv_at hl 1 rfl) ?_
        refine lv_bipush (v := iI 7) hC.1 hC.2.1 d_ps_giveSlot_92 (by decide +kernel) ?_
        refine ir_mul hC.1 hC.2.1 d_ps_giveSlot_94 ?_
        refine lv_iload_n hC.1 hC.2.1 d_ps_giveSlot_95 rfl (lv_at hl 0 rfl) ?_
        refine ir_add hC.1 hC.2.1 d_ps_giveSlot_96 ?_
        refine lv_aload_n hC.1 hC.2.1 d_ps_giveSlot_97 rfl (lv_at hl 2 rfl) ?_
        refine lv_iconst (v := iI 0) hC.1 hC.2.1 d_ps_giveSlot_98 rfl ?_
        refine lv_iload_n hC.1 hC.2.1 d_ps_giveSlot_99 rfl (lv_at hl 0 rfl) ?_
        refine go_R (ca_V (As := [.int (iI (0)), .int (iI (x2))]) (rest := [.int (iI ((((s_up S 3 0 ((S 3 0) + 1)) 3 0) * 7) + x2)), .ref (G.2.1 22)]) hC hw (c_ps_isForward l G (s_up (gvf S k) 21 ((((s_up S 3 0 ((S 3 0) + 1)) 3 0) * 7) + x2).toNat (pOf (gvf S k) 0 x2)) 0 x2 hI_17 (by omega) (by omega)) (cv_ps_55 hC rfl rfl (Nat.le_of_ble_eq_true rfl) (Nat.le_of_ble_eq_true rfl)) (by decide) rfl rfl rfl hl.1 rfl (Nat.le_of_ble_eq_true rfl) d_ps_giveSlot_100 ⟨Nat.le_of_ble_eq_true rfl, Nat.le_of_ble_eq_true rfl⟩) ?_
        have r_18 := fOf_b hI_17 0 x2
        refine st_22 (x := fOf (s_up (gvf S k) 21 ((((s_up S 3 0 ((S 3 0) + 1)) 3 0) * 7) + x2).toNat (pOf (gvf S k) 0 x2)) 0 x2) (z := (((s_up S 3 0 ((S 3 0) + 1)) 3 0) * 7) + x2) hC hw (by omega) (by omega) (by omega) d_ps_giveSlot_103 (fun H locs hw => ?_)
        have hI_19 := Inv.up (q := 22) (i := ((((s_up S 3 0 ((S 3 0) + 1)) 3 0) * 7) + x2).toNat) (x := fOf (s_up (gvf S k) 21 ((((s_up S 3 0 ((S 3 0) + 1)) 3 0) * 7) + x2).toNat (pOf (gvf S k) 0 x2)) 0 x2) hI_17 (by omega) (show _ ≤ 1 from by omega)
        refine lv_aload_n hC.1 hC.2.1 d_ps_giveSlot_104 rfl (lv_at hl 2 rfl) ?_
        refine gf_ps_35 hC hw d_ps_giveSlot_105 ?_
        refine lv_iload_n hC.1 hC.2.1 d_ps_giveSlot_108 rfl (lv_at hl 1 rfl) ?_
        refine lv_bipush (v := iI 8) hC.1 hC.2.1 d_ps_giveSlot_109 (by decide +kernel) ?_
        refine ir_mul hC.1 hC.2.1 d_ps_giveSlot_111 ?_
        refine lv_iload_n hC.1 hC.2.1 d_ps_giveSlot_112 rfl (lv_at hl 0 rfl) ?_
        refine ir_add hC.1 hC.2.1 d_ps_giveSlot_113 ?_
        refine lv_iconst (v := iI 1) hC.1 hC.2.1 d_ps_giveSlot_114 rfl ?_
        refine ir_add hC.1 hC.2.1 d_ps_giveSlot_115 ?_
        refine lv_aload_n hC.1 hC.2.1 d_ps_giveSlot_116 rfl (lv_at hl 2 rfl) ?_
        refine gf_ps_35 hC hw d_ps_giveSlot_117 ?_
        refine lv_iconst (v := iI 0) hC.1 hC.2.1 d_ps_giveSlot_120 rfl ?_
        refine lv_iload_n hC.1 hC.2.1 d_ps_giveSlot_121 rfl (lv_at hl 0 rfl) ?_
        refine ir_add hC.1 hC.2.1 d_ps_giveSlot_122 ?_
        refine lv_iconst (v := iI 1) hC.1 hC.2.1 d_ps_giveSlot_123 rfl ?_
        refine ir_add hC.1 hC.2.1 d_ps_giveSlot_124 ?_
        refine ld_23 hC hw (by omega) (by omega) d_ps_giveSlot_125 ?_
        have b_20 := iv_23x hI_19 (((0 + x2) + 1).toNat)
        refine st_23 (x := (s_up (s_up (gvf S k) 21 ((((s_up S 3 0 ((S 3 0) + 1)) 3 0) * 7) + x2).toNat (pOf (gvf S k) 0 x2)) 22 ((((s_up S 3 0 ((S 3 0) + 1)) 3 0) * 7) + x2).toNat (fOf (s_up (gvf S k) 21 ((((s_up S 3 0 ((S 3 0) + 1)) 3 0) * 7) + x2).toNat (pOf (gvf S k) 0 x2)) 0 x2)) 23 ((0 + x2) + 1).toNat) (z := ((((s_up S 3 0 ((S 3 0) + 1)) 3 0) * 8) + x2) + 1) hC hw (by omega) (by omega) d_ps_giveSlot_126 (fun H locs hw => ?_)
        have hI_21 := Inv.up (q := 23) (i := (((((s_up S 3 0 ((S 3 0) + 1)) 3 0) * 8) + x2) + 1).toNat) (x := (s_up (s_up (gvf S k) 21 ((((s_up S 3 0 ((S 3 0) + 1)) 3 0) * 7) + x2).toNat (pOf (gvf S k) 0 x2)) 22 ((((s_up S 3 0 ((S 3 0) + 1)) 3 0) * 7) + x2).toNat (fOf (s_up (gvf S k) 21 ((((s_up S 3 0 ((S 3 0) + 1)) 3 0) * 7) + x2).toNat (pOf (gvf S k) 0 x2)) 0 x2)) 23 ((0 + x2) + 1).toNat) hI_19 (by omega) (show _ ≤ 100 * ((((((((s_up S 3 0 ((S 3 0) + 1)) 3 0) * 8) + x2) + 1).toNat) % 8 : Nat) : Int) from by omega)
        refine lv_iinc (v := iI (x2 + 1)) (lv' := [(2, .int (iI (x2 + 1))), (1, .int (iI ((s_up S 3 0 ((S 3 0) + 1)) 3 0))), (0, .ref (G.2.1 3))]) hC.1 hC.2.1 d_ps_giveSlot_127 hl (k := 0) rfl (iI_add _ _) (by decide) rfl (fun ls hl => ?_)
        refine lv_goto (tgt := 60) hC.1 hC.2.1 d_ps_giveSlot_130 (by decide) ?_
        exact ih_60 (k + 1) _ (by omega) (by first | rfl | omega) (by omega) _ _ _ (by rw [hx2] at hw; exact hw) (lv_sub hl [0, 1, 2] rfl)
  exact loop_60 _ 0 _ (Nat.lt_succ_self _) (by first | rfl | omega) (by omega) _ _ _ hw (lv_sub hl [0, 1, 2] rfl)

/-! the class's face: what throws, what comes back -/
def txs : List (Nat × String) := [(51, "a piece joins two points of 0 to 7"), (60, "length and width are 1 to 100"), (67, "there are 12 pieces"), (84, "width is 1 to 100, speed 1 to 20, class 0 to 2"), (87, "there are 12 ships"), (95, "no such ship, points or what"), (108, "no such ship or points, or not such a time"), (113, "there are 30 slots"), (137, "no such slot, or not such a time"), (146, "no such piece, or not such times"), (151, "the piece has 4 closed spans"), (159, "no such side"), (166, "no such slot, stay or what")]
theorem own_53 : (Jvm.Bundle.ownAtoms "ChannelRules" 53 "java/lang/IllegalArgumentException" ["java/lang/RuntimeException", "java/lang/Exception"]).all (fun w => (decide (w ∈ lw_tbl) && twk w) || decide (w ∈ exl)) = true := by decide +kernel
theorem own_69 : (Jvm.Bundle.ownAtoms "ChannelRules" 69 "java/lang/IllegalStateException" ["java/lang/RuntimeException", "java/lang/Exception"]).all (fun w => (decide (w ∈ lw_tbl) && twk w) || decide (w ∈ exl)) = true := by decide +kernel
theorem own_168 : (Jvm.Bundle.ownAtoms "ChannelRules" 168 "java/lang/IndexOutOfBoundsException" ["java/lang/RuntimeException", "java/lang/Exception"]).all (fun w => (decide (w ∈ lw_tbl) && twk w) || decide (w ∈ exl)) = true := by decide +kernel
def kPc (S : St) (a b n w : Int) : Int := if wn a 0 7 = true ∧ wn b 0 7 = true ∧ ¬ a = b ∧ wn n 1 100 = true ∧ wn w 1 100 = true then (if S 1 0 < 12 then 0 else 2) else 1
def kSh (S : St) (a b d : Int) : Int := if wn a 1 100 = true ∧ wn b 1 20 = true ∧ wn d 0 2 = true then (if S 2 0 < 12 then 0 else 2) else 1
def kCl (S : St) (q a b : Int) : Int := if wn q 0 (S 1 0 - 1) = true ∧ S 0 6 ≤ a ∧ a < b ∧ b ≤ 100000 then (if S 11 q.toNat < 4 then 0 else 2) else 1
def cnt (S : St) (k : Int) : Int := if k = 0 then S 1 0 else if k = 1 then S 2 0 else if k = 2 then S 3 0 else if k = 3 then gSum S (S 3 0).toNat else if k = 4 then S 0 6 else if k = 5 then (skO S (-1) (S 3 0).toNat).2 else if k = 6 then S 0 5 else if k < 20 then -1 else gMk S (k - 20)
theorem aSp_I {S : St} (h : Inv S) {q a b : Int} (hm : S 11 q.toNat < 4) (ha : 0 ≤ a ∧ a ≤ 100000) (hb : 0 ≤ b ∧ b ≤ 100000) : Inv (aSp S q a b) := by
  have h1 := iv_11 h q.toNat
  exact Inv.up (q := 11) (Inv.up (q := 13) (Inv.up (q := 12) h ha.1 ha.2) hb.1 hb.2) (by omega) (show _ ≤ 4 by omega)
set_option maxHeartbeats 4000000 in
set_option maxRecDepth 100000 in
theorem c_cr_wind (l : Launch) (G : Gt) (S : St) (x : Int) (hI : Inv S) (hx : x = 0 ∨ x = 1) : Met l y_cr_wind [.code y_cr_wind b_cr_wind 2 (some .boolean)] { frames := 0, cells := 0, slots := 0, locals := 0 } (va_Pc [.ref (G.2.1 0), .int (iI (x))] (fun U => wu G S U)) (qW G (if S 0 5 = x then S else s_up S 0 5 x) (if S 0 5 = x then 0 else 1)) 0 0 (gA G) := by
  refine mt_of (by decide +kernel) (Nat.le_of_ble_eq_true rfl) ?_
  intro p e s m below meth c ls hadm hC hr hlk hex hw hl
  have hC : CallFix p m c b_cr_wind 2 s _ tws "ChannelRules" := hC
  have hl : lv_has ls 2 [(0, .ref (G.2.1 0)), (1, .int (iI (x)))] := hl
  have i0 := iv_0z hI
  refine lv_aload_n hC.1 hC.2.1 d_cr_wind_0 rfl (lv_at hl 0 rfl) ?_
  refine gf_cr_37 hC hw d_cr_wind_1 ?_
  have b_1 := iv_0 hI 5
  refine lv_iload_n hC.1 hC.2.1 d_cr_wind_4 rfl (lv_at hl 1 rfl) ?_
  refine ir_ne (tgt := 10) hC.1 hC.2.1 d_cr_wind_5 (by decide) ⟨by omega, by omega⟩ ⟨by omega, by omega⟩ (fun c_2 => ?_) (fun c_2 => ?_)
  · skip
    refine lv_aload_n hC.1 hC.2.1 d_cr_wind_10 rfl (lv_at hl 0 rfl) ?_
    refine lv_iload_n hC.1 hC.2.1 d_cr_wind_11 rfl (lv_at hl 1 rfl) ?_
    refine pf_cr_37 (x := x) hC hw (by omega) d_cr_wind_12 (fun H locs hw => ?_)
    refine lv_iconst (v := iI 1) hC.1 hC.2.1 d_cr_wind_15 rfl ?_
    exact rt_WZ hC hr hlk hw (by decide) (by simp [c_2]) (by simp [c_2]) d_cr_wind_16
  · skip
    refine lv_iconst (v := iI 0) hC.1 hC.2.1 d_cr_wind_8 rfl ?_
    exact rt_WZ hC hr hlk hw (by decide) (by simp [c_2]) (by simp [c_2]) d_cr_wind_9
set_option maxHeartbeats 4000000 in
set_option maxRecDepth 100000 in
theorem c_cr_tick (l : Launch) (G : Gt) (S : St) (t : Int) (hI : Inv S) (ht : i32 t) : Met l y_cr_tick [.code y_cr_tick b_cr_tick 2 (some .boolean)] { frames := 1, cells := 0, slots := 0, locals := 22 } (va_Pc [.ref (G.2.1 0), .int (iI (t))] (fun U => wu G S U)) (qW G (if wn t (S 0 6) 100000 = true then s_up S 0 6 t else S) (if wn t (S 0 6) 100000 = true then 1 else 0)) 0 0 (gA G) := by
  refine mt_of (by decide +kernel) (Nat.le_of_ble_eq_true rfl) ?_
  intro p e s m below meth c ls hadm hC hr hlk hex hw hl
  have hC : CallFix p m c b_cr_tick 2 s _ tws "ChannelRules" := hC
  have hl : lv_has ls 2 [(0, .ref (G.2.1 0)), (1, .int (iI (t)))] := hl
  refine lv_iload_n hC.1 hC.2.1 d_cr_tick_0 rfl (lv_at hl 1 rfl) ?_
  refine lv_aload_n hC.1 hC.2.1 d_cr_tick_1 rfl (lv_at hl 0 rfl) ?_
  refine gf_cr_41 hC hw d_cr_tick_2 ?_
  have b_1 := iv_0 hI 6
  refine ir_ldc hC 100000 tw_186 (by decide +kernel) d_cr_tick_5 ?_
  refine go_R (ca_S (As := [.int (iI (t)), .int (iI (S 0 6)), .int (iI (100000))]) (rest := []) hC hw (c_cr_isWithin l G S t (S 0 6) 100000 (by omega) (by omega) (by omega)) (cv_cr_56 hC rfl rfl (Nat.le_of_ble_eq_true rfl) (Nat.le_of_ble_eq_true rfl)) rfl hl.1 rfl (Nat.le_of_ble_eq_true rfl) d_cr_tick_7 ⟨Nat.le_of_ble_eq_true rfl, Nat.le_of_ble_eq_true rfl⟩) ?_
  refine ir_bne (tgt := 15) hC d_cr_tick_10 (by decide) (fun c_2 => ?_) (fun c_2 => ?_)
  · skip
    have w_3 := wn_t c_2
    refine lv_aload_n hC.1 hC.2.1 d_cr_tick_15 rfl (lv_at hl 0 rfl) ?_
    refine lv_iload_n hC.1 hC.2.1 d_cr_tick_16 rfl (lv_at hl 1 rfl) ?_
    refine pf_cr_41 (x := t) hC hw d_cr_tick_17 (fun H locs hw => ?_)
    refine lv_iconst (v := iI 1) hC.1 hC.2.1 d_cr_tick_20 rfl ?_
    exact rt_WZ hC hr hlk hw (by decide) (by simp [c_2]) (by simp [c_2]) d_cr_tick_21
  · skip
    refine lv_iconst (v := iI 0) hC.1 hC.2.1 d_cr_tick_13 rfl ?_
    exact rt_WZ hC hr hlk hw (by decide) (by simp [c_2]) (by simp [c_2]) d_cr_tick_14
set_option maxHeartbeats 4000000 in
set_option maxRecDepth 100000 in
theorem c_cr_back (l : Launch) (G : Gt) (S : St) (k : Int) (hI : Inv S) (hk : i32 k) : Met l y_cr_back [.code y_cr_back b_cr_back 2 (some .boolean)] { frames := 2, cells := 0, slots := 0, locals := 43 } (va_Pc [.ref (G.2.1 0), .int (iI (k))] (fun U => wu G S U)) (qW G (if (wn k 1 (S 3 0) && stB S k) = true then s_up S 17 k.toNat 0 else S) (bI (wn k 1 (S 3 0) && stB S k))) 0 0 (gA G) := by
  refine mt_of (by decide +kernel) (Nat.le_of_ble_eq_true rfl) ?_
  intro p e s m below meth c ls hadm hC hr hlk hex hw hl
  have hC : CallFix p m c b_cr_back 2 s _ tws "ChannelRules" := hC
  have hl : lv_has ls 2 [(0, .ref (G.2.1 0)), (1, .int (iI (k)))] := hl
  have i3 := iv_3 hI 0
  refine lv_aload_n hC.1 hC.2.1 d_cr_back_0 rfl (lv_at hl 0 rfl) ?_
  refine gf_cr_26 hC hw d_cr_back_1 ?_
  refine lv_iload_n hC.1 hC.2.1 d_cr_back_4 rfl (lv_at hl 1 rfl) ?_
  refine go_R (ca_V (As := [.int (iI (k))]) (rest := []) hC hw (c_ps_hasSlot l G S k hI (by omega)) (cv_cr_134 hC rfl rfl (Nat.le_of_ble_eq_true rfl) (Nat.le_of_ble_eq_true rfl)) (by decide) rfl rfl rfl hl.1 rfl (Nat.le_of_ble_eq_true rfl) d_cr_back_5 ⟨Nat.le_of_ble_eq_true rfl, Nat.le_of_ble_eq_true rfl⟩) ?_
  refine ir_beq (tgt := 19) hC d_cr_back_8 (by decide) (fun c_1 => ?_) (fun c_1 => ?_)
  · skip
    refine lv_iconst (v := iI 0) hC.1 hC.2.1 d_cr_back_19 rfl ?_
    exact rt_WZ hC hr hlk hw (by decide) (by simp [bI, c_1]) (by simp [c_1]) d_cr_back_20
  · skip
    have w_2 := wn_t c_1
    refine lv_aload_n hC.1 hC.2.1 d_cr_back_11 rfl (lv_at hl 0 rfl) ?_
    refine lv_iload_n hC.1 hC.2.1 d_cr_back_12 rfl (lv_at hl 1 rfl) ?_
    refine go_R (ca_V (As := [.int (iI (k))]) (rest := []) hC hw (c_cr_isStillToBegin l G S k hI (by omega)) (cv_cr_139 hC rfl rfl (Nat.le_of_ble_eq_true rfl) (Nat.le_of_ble_eq_true rfl)) (by decide) rfl rfl rfl hl.1 rfl (Nat.le_of_ble_eq_true rfl) d_cr_back_13 ⟨Nat.le_of_ble_eq_true rfl, Nat.le_of_ble_eq_true rfl⟩) ?_
    refine ir_bne (tgt := 21) hC d_cr_back_16 (by decide) (fun c_3 => ?_) (fun c_3 => ?_)
    · skip
      have w_4 := stB_t c_3
      refine lv_aload_n hC.1 hC.2.1 d_cr_back_21 rfl (lv_at hl 0 rfl) ?_
      refine gf_cr_26 hC hw d_cr_back_22 ?_
      refine gf_cr_142 hC hw d_cr_back_25 ?_
      refine lv_iload_n hC.1 hC.2.1 d_cr_back_28 rfl (lv_at hl 1 rfl) ?_
      refine lv_iconst (v := iI 0) hC.1 hC.2.1 d_cr_back_29 rfl ?_
      refine st_17 (x := 0) (z := k) hC hw (by omega) (by omega) (by omega) d_cr_back_30 (fun H locs hw => ?_)
      refine lv_iconst (v := iI 1) hC.1 hC.2.1 d_cr_back_31 rfl ?_
      exact rt_WZ hC hr hlk hw (by decide) (by simp [bI, c_1, c_3]) (by simp [c_1, c_3]) d_cr_back_32
    · skip
      refine lv_iconst (v := iI 0) hC.1 hC.2.1 d_cr_back_19 rfl ?_
      exact rt_WZ hC hr hlk hw (by decide) (by simp [bI, c_1, c_3]) (by simp [c_1, c_3]) d_cr_back_20
set_option maxHeartbeats 4000000 in
set_option maxRecDepth 100000 in
theorem c_cr_count (l : Launch) (G : Gt) (S : St) (k : Int) (hI : Inv S) (hk : i32 k) : Met l y_cr_count [.code y_cr_count b_cr_count 2 (some .int)] { frames := 5, cells := 0, slots := 0, locals := 130 } (va_Pc [.ref (G.2.1 0), .int (iI (k))] (fun U => wu G S U)) (qW G (if k = 5 then (skO S (-1) (S 3 0).toNat).1 else S) (cnt S k)) 0 0 (gA G) := by
  refine mt_of (by decide +kernel) (Nat.le_of_ble_eq_true rfl) ?_
  intro p e s m below meth c ls hadm hC hr hlk hex hw hl
  have hC : CallFix p m c b_cr_count 2 s _ tws "ChannelRules" := hC
  have hl : lv_has ls 2 [(0, .ref (G.2.1 0)), (1, .int (iI (k)))] := hl
  have i0 := iv_0z hI
  refine lv_iload_n hC.1 hC.2.1 d_cr_count_0 rfl (lv_at hl 1 rfl) ?_
  by_cases e_1 : k = 0
  · refine ir_tin (tgt := 44) hC d_cr_count_1 ⟨by omega, by omega⟩ 0 (by omega) (by omega) rfl (by decide) ?_
    refine lv_aload_n hC.1 hC.2.1 d_cr_count_44 rfl (lv_at hl 0 rfl) ?_
    refine gf_cr_12 hC hw d_cr_count_45 ?_
    refine gf_cr_62 hC hw d_cr_count_48 ?_
    have b_2 := iv_1 hI 0
    exact rt_W hC hr hlk hw (by first | (simp [cnt, e_1]; done) | (simp [cnt, e_1]; omega)) (by first | (simp [e_1]; done) | (rw [if_neg (by omega)]) | (rw [if_pos (by omega)])) d_cr_count_51
  · skip
    by_cases e_3 : k = 1
    · refine ir_tin (tgt := 52) hC d_cr_count_1 ⟨by omega, by omega⟩ 1 (by omega) (by omega) rfl (by decide) ?_
      refine lv_aload_n hC.1 hC.2.1 d_cr_count_52 rfl (lv_at hl 0 rfl) ?_
      refine gf_cr_19 hC hw d_cr_count_53 ?_
      refine gf_cr_86 hC hw d_cr_count_56 ?_
      have b_4 := iv_2 hI 0
      exact rt_W hC hr hlk hw (by first | (simp [cnt, e_1, e_3]; done) | (simp [cnt, e_1, e_3]; omega)) (by first | (simp [e_1, e_3]; done) | (rw [if_neg (by omega)]) | (rw [if_pos (by omega)])) d_cr_count_59
    · skip
      by_cases e_5 : k = 2
      · refine ir_tin (tgt := 60) hC d_cr_count_1 ⟨by omega, by omega⟩ 2 (by omega) (by omega) rfl (by decide) ?_
        refine lv_aload_n hC.1 hC.2.1 d_cr_count_60 rfl (lv_at hl 0 rfl) ?_
        refine gf_cr_26 hC hw d_cr_count_61 ?_
        refine gf_cr_110 hC hw d_cr_count_64 ?_
        have b_6 := iv_3 hI 0
        exact rt_W hC hr hlk hw (by first | (simp [cnt, e_1, e_3, e_5]; done) | (simp [cnt, e_1, e_3, e_5]; omega)) (by first | (simp [e_1, e_3, e_5]; done) | (rw [if_neg (by omega)]) | (rw [if_pos (by omega)])) d_cr_count_67
      · skip
        by_cases e_7 : k = 3
        · refine ir_tin (tgt := 68) hC d_cr_count_1 ⟨by omega, by omega⟩ 3 (by omega) (by omega) rfl (by decide) ?_
          refine lv_aload_n hC.1 hC.2.1 d_cr_count_68 rfl (lv_at hl 0 rfl) ?_
          refine gf_cr_26 hC hw d_cr_count_69 ?_
          refine go_R (ca_V (As := []) (rest := []) hC hw (c_ps_givenSlots l G S hI) (cv_cr_179 hC rfl rfl (Nat.le_of_ble_eq_true rfl) (Nat.le_of_ble_eq_true rfl)) (by decide) rfl rfl rfl hl.1 rfl (Nat.le_of_ble_eq_true rfl) d_cr_count_72 ⟨Nat.le_of_ble_eq_true rfl, Nat.le_of_ble_eq_true rfl⟩) ?_
          exact rt_W hC hr hlk hw (by first | (simp [cnt, e_1, e_3, e_5, e_7]; done) | (simp [cnt, e_1, e_3, e_5, e_7]; omega)) (by first | (simp [e_1, e_3, e_5, e_7]; done) | (rw [if_neg (by omega)]) | (rw [if_pos (by omega)])) d_cr_count_75
        · skip
          by_cases e_8 : k = 4
          · refine ir_tin (tgt := 76) hC d_cr_count_1 ⟨by omega, by omega⟩ 4 (by omega) (by omega) rfl (by decide) ?_
            refine lv_aload_n hC.1 hC.2.1 d_cr_count_76 rfl (lv_at hl 0 rfl) ?_
            refine gf_cr_41 hC hw d_cr_count_77 ?_
            have b_9 := iv_0 hI 6
            exact rt_W hC hr hlk hw (by first | (simp [cnt, e_1, e_3, e_5, e_7, e_8]; done) | (simp [cnt, e_1, e_3, e_5, e_7, e_8]; omega)) (by first | (simp [e_1, e_3, e_5, e_7, e_8]; done) | (rw [if_neg (by omega)]) | (rw [if_pos (by omega)])) d_cr_count_80
          · skip
            by_cases e_10 : k = 5
            · refine ir_tin (tgt := 81) hC d_cr_count_1 ⟨by omega, by omega⟩ 5 (by omega) (by omega) rfl (by decide) ?_
              refine lv_aload_n hC.1 hC.2.1 d_cr_count_81 rfl (lv_at hl 0 rfl) ?_
              refine lv_iconst (v := iI (-1)) hC.1 hC.2.1 d_cr_count_82 rfl ?_
              refine go_W (ca_V (As := [.int (iI ((-1)))]) (rest := []) hC hw (c_cr_seekConflict l G S (-1) hI (by omega)) (cv_cr_161 hC rfl rfl (Nat.le_of_ble_eq_true rfl) (Nat.le_of_ble_eq_true rfl)) (by decide) rfl rfl rfl hl.1 rfl (Nat.le_of_ble_eq_true rfl) d_cr_count_83 ⟨Nat.le_of_ble_eq_true rfl, Nat.le_of_ble_eq_true rfl⟩) hw (fun H locs hw => ?_)
              exact rt_W hC hr hlk hw (by first | (simp [cnt, e_1, e_3, e_5, e_7, e_8, e_10]; done) | (simp [cnt, e_1, e_3, e_5, e_7, e_8, e_10]; omega)) (by first | (simp [e_1, e_3, e_5, e_7, e_8, e_10]; done) | (rw [if_neg (by omega)]) | (rw [if_pos (by omega)])) d_cr_count_86
            · skip
              by_cases e_11 : k = 6
              · refine ir_tin (tgt := 87) hC d_cr_count_1 ⟨by omega, by omega⟩ 6 (by omega) (by omega) rfl (by decide) ?_
                refine lv_aload_n hC.1 hC.2.1 d_cr_count_87 rfl (lv_at hl 0 rfl) ?_
                refine gf_cr_37 hC hw d_cr_count_88 ?_
                have b_12 := iv_0 hI 5
                refine ir_if_eq (tgt := 98) hC.1 hC.2.1 d_cr_count_91 (by decide) ⟨by omega, by omega⟩ (fun c_13 => ?_) (fun c_13 => ?_)
                · skip
                  refine lv_iconst (v := iI 0) hC.1 hC.2.1 d_cr_count_98 rfl ?_
                  exact rt_W hC hr hlk hw (by first | (simp [cnt, e_1, e_3, e_5, e_7, e_8, e_10, e_11, c_13]; done) | (simp [cnt, e_1, e_3, e_5, e_7, e_8, e_10, e_11, c_13]; omega)) (by first | (simp [e_1, e_3, e_5, e_7, e_8, e_10, e_11, c_13]; done) | (rw [if_neg (by omega)]) | (rw [if_pos (by omega)])) d_cr_count_99
                · skip
                  refine lv_iconst (v := iI 1) hC.1 hC.2.1 d_cr_count_94 rfl ?_
                  refine lv_goto (tgt := 99) hC.1 hC.2.1 d_cr_count_95 (by decide) ?_
                  exact rt_W hC hr hlk hw (by first | (simp [cnt, e_1, e_3, e_5, e_7, e_8, e_10, e_11, c_13]; done) | (simp [cnt, e_1, e_3, e_5, e_7, e_8, e_10, e_11, c_13]; omega)) (by first | (simp [e_1, e_3, e_5, e_7, e_8, e_10, e_11, c_13]; done) | (rw [if_neg (by omega)]) | (rw [if_pos (by omega)])) d_cr_count_99
              · skip
                refine ir_tout (tgt := 100) hC d_cr_count_1 ⟨by omega, by omega⟩ (by omega) (by decide) ?_
                refine lv_iload_n hC.1 hC.2.1 d_cr_count_100 rfl (lv_at hl 1 rfl) ?_
                refine lv_bipush (v := iI 20) hC.1 hC.2.1 d_cr_count_101 (by decide +kernel) ?_
                refine ir_ge (tgt := 110) hC.1 hC.2.1 d_cr_count_103 (by decide) ⟨by omega, by omega⟩ (by decide) (fun c_14 => ?_) (fun c_14 => ?_)
                · skip
                  refine lv_aload_n hC.1 hC.2.1 d_cr_count_110 rfl (lv_at hl 0 rfl) ?_
                  refine lv_iload_n hC.1 hC.2.1 d_cr_count_111 rfl (lv_at hl 1 rfl) ?_
                  refine lv_bipush (v := iI 20) hC.1 hC.2.1 d_cr_count_112 (by decide +kernel) ?_
                  refine ir_sub hC.1 hC.2.1 d_cr_count_114 ?_
                  refine go_R (ca_V (As := [.int (iI (k - 20))]) (rest := []) hC hw (c_cr_givenMark l G S (k - 20) hI (by omega)) (cv_cr_182 hC rfl rfl (Nat.le_of_ble_eq_true rfl) (Nat.le_of_ble_eq_true rfl)) (by decide) rfl rfl rfl hl.1 rfl (Nat.le_of_ble_eq_true rfl) d_cr_count_115 ⟨Nat.le_of_ble_eq_true rfl, Nat.le_of_ble_eq_true rfl⟩) ?_
                  exact rt_W hC hr hlk hw (by first | (simp [cnt, e_1, e_3, e_5, e_7, e_8, e_10, e_11, c_14]; done) | (simp [cnt, e_1, e_3, e_5, e_7, e_8, e_10, e_11, c_14]; omega)) (by first | (simp [e_1, e_3, e_5, e_7, e_8, e_10, e_11, c_14]; done) | (rw [if_neg (by omega)]) | (rw [if_pos (by omega)])) d_cr_count_118
                · skip
                  refine lv_iconst (v := iI (-1)) hC.1 hC.2.1 d_cr_count_106 rfl ?_
                  refine lv_goto (tgt := 118) hC.1 hC.2.1 d_cr_count_107 (by decide) ?_
                  exact rt_W hC hr hlk hw (by first | (simp [cnt, e_1, e_3, e_5, e_7, e_8, e_10, e_11, c_14]; done) | (simp [cnt, e_1, e_3, e_5, e_7, e_8, e_10, e_11, c_14]; omega)) (by first | (simp [e_1, e_3, e_5, e_7, e_8, e_10, e_11, c_14]; done) | (rw [if_neg (by omega)]) | (rw [if_pos (by omega)])) d_cr_count_118
set_option maxHeartbeats 4000000 in
set_option maxRecDepth 100000 in
theorem c_cr_piece (l : Launch) (hl0 : ∀ e : Env, l.admits e → e.platform.stackTraces = false) (G : Gt) (S : St) (a : Int) (b : Int) (n : Int) (w : Int) (hI : Inv S) (ha : i32 a) (hb : i32 b) (hn : i32 n) (hw : i32 w) : MetX l y_cr_piece [.code y_cr_piece b_cr_piece 5 (some .int)] { frames := 7, cells := 1, slots := 6, locals := 120 } (va_Pc [.ref (G.2.1 0), .int (iI (a)), .int (iI (b)), .int (iI (n)), .int (iI (w))] (fun U => wu G S U ∧ exw txs U)) (qX G (if kPc S a b n w = 0 then pAdd S a b n w else S) (kPc S a b n w) (S 1 0)) 1 6 (gA G) := by
  refine mtx_of (by decide +kernel) (Nat.le_of_ble_eq_true rfl) ?_
  intro p e s m below meth c ls hadm hC hr hlk hex hw hxw hl
  have hC : CallFix p m c b_cr_piece 5 s _ tws "ChannelRules" := hC
  have hl : lv_has ls 5 [(0, .ref (G.2.1 0)), (1, .int (iI (a))), (2, .int (iI (b))), (3, .int (iI (n))), (4, .int (iI (w)))] := hl
  refine lv_iload_n hC.1 hC.2.1 d_cr_piece_0 rfl (lv_at hl 1 rfl) ?_
  refine go_R (ca_S (As := [.int (iI (a))]) (rest := []) hC hw (c_cr_isPoint l G S a (by omega)) (cv_cr_45 hC rfl rfl (Nat.le_of_ble_eq_true rfl) (Nat.le_of_ble_eq_true rfl)) rfl hl.1 rfl (Nat.le_of_ble_eq_true rfl) d_cr_piece_1 ⟨Nat.le_of_ble_eq_true rfl, Nat.le_of_ble_eq_true rfl⟩) ?_
  refine ir_beq (tgt := 19) hC d_cr_piece_4 (by decide) (fun c_1 => ?_) (fun c_1 => ?_)
  · skip
    have hk_2 : kPc S a b n w = 1 := (by first | (simp [kPc, c_1]; done) | (simp [kPc, c_1]; omega) | (simp [kPc, c_1]; done) | (simp [kPc, c_1]; omega) | omega)
    exact th_S (X := "java/lang/IllegalArgumentException") (txt := "a piece joins two points of 0 to 7") hC (hl0 e hadm) hw hxw hlk hex hl.1 tw_256 tw_257 tw_9 (by decide) own_53 (by decide +kernel) d_cr_piece_19 d_cr_piece_22 d_cr_piece_23 d_cr_piece_25 d_cr_piece_28 (Nat.le_of_ble_eq_true rfl) (Nat.le_of_ble_eq_true rfl) (Nat.le_of_ble_eq_true rfl) (Nat.le_of_ble_eq_true rfl) (by rw [hk_2]; decide) (by rw [hk_2]; decide +kernel) (by simp [hk_2])
  · skip
    have w_3 := wn_t c_1
    refine lv_iload_n hC.1 hC.2.1 d_cr_piece_7 rfl (lv_at hl 2 rfl) ?_
    refine go_R (ca_S (As := [.int (iI (b))]) (rest := []) hC hw (c_cr_isPoint l G S b (by omega)) (cv_cr_45 hC rfl rfl (Nat.le_of_ble_eq_true rfl) (Nat.le_of_ble_eq_true rfl)) rfl hl.1 rfl (Nat.le_of_ble_eq_true rfl) d_cr_piece_8 ⟨Nat.le_of_ble_eq_true rfl, Nat.le_of_ble_eq_true rfl⟩) ?_
    refine ir_beq (tgt := 19) hC d_cr_piece_11 (by decide) (fun c_4 => ?_) (fun c_4 => ?_)
    · skip
      have hk_5 : kPc S a b n w = 1 := (by first | (simp [kPc, c_1, c_4]; done) | (simp [kPc, c_1, c_4]; omega) | (simp [kPc, c_1, c_4]; done) | (simp [kPc, c_1, c_4]; omega) | omega)
      exact th_S (X := "java/lang/IllegalArgumentException") (txt := "a piece joins two points of 0 to 7") hC (hl0 e hadm) hw hxw hlk hex hl.1 tw_256 tw_257 tw_9 (by decide) own_53 (by decide +kernel) d_cr_piece_19 d_cr_piece_22 d_cr_piece_23 d_cr_piece_25 d_cr_piece_28 (Nat.le_of_ble_eq_true rfl) (Nat.le_of_ble_eq_true rfl) (Nat.le_of_ble_eq_true rfl) (Nat.le_of_ble_eq_true rfl) (by rw [hk_5]; decide) (by rw [hk_5]; decide +kernel) (by simp [hk_5])
    · skip
      have w_6 := wn_t c_4
      refine lv_iload_n hC.1 hC.2.1 d_cr_piece_14 rfl (lv_at hl 1 rfl) ?_
      refine lv_iload_n hC.1 hC.2.1 d_cr_piece_15 rfl (lv_at hl 2 rfl) ?_
      refine ir_ne (tgt := 29) hC.1 hC.2.1 d_cr_piece_16 (by decide) ⟨by omega, by omega⟩ ⟨by omega, by omega⟩ (fun c_7 => ?_) (fun c_7 => ?_)
      · skip
        refine lv_iload_n hC.1 hC.2.1 d_cr_piece_29 rfl (lv_at hl 3 rfl) ?_
        refine lv_iconst (v := iI 1) hC.1 hC.2.1 d_cr_piece_30 rfl ?_
        refine lv_bipush (v := iI 100) hC.1 hC.2.1 d_cr_piece_31 (by decide +kernel) ?_
        refine go_R (ca_S (As := [.int (iI (n)), .int (iI (1)), .int (iI (100))]) (rest := []) hC hw (c_cr_isWithin l G S n 1 100 (by omega) (by omega) (by omega)) (cv_cr_56 hC rfl rfl (Nat.le_of_ble_eq_true rfl) (Nat.le_of_ble_eq_true rfl)) rfl hl.1 rfl (Nat.le_of_ble_eq_true rfl) d_cr_piece_33 ⟨Nat.le_of_ble_eq_true rfl, Nat.le_of_ble_eq_true rfl⟩) ?_
        refine ir_beq (tgt := 50) hC d_cr_piece_36 (by decide) (fun c_8 => ?_) (fun c_8 => ?_)
        · skip
          have hk_9 : kPc S a b n w = 1 := (by first | (simp [kPc, c_1, c_4, c_7, c_8]; done) | (simp [kPc, c_1, c_4, c_7, c_8]; omega) | (simp [kPc, c_1, c_4, c_7, c_8]; done) | (simp [kPc, c_1, c_4, c_7, c_8]; omega) | omega)
          exact th_S (X := "java/lang/IllegalArgumentException") (txt := "length and width are 1 to 100") hC (hl0 e hadm) hw hxw hlk hex hl.1 tw_256 tw_257 tw_9 (by decide) own_53 (by decide +kernel) d_cr_piece_50 d_cr_piece_53 d_cr_piece_54 d_cr_piece_56 d_cr_piece_59 (Nat.le_of_ble_eq_true rfl) (Nat.le_of_ble_eq_true rfl) (Nat.le_of_ble_eq_true rfl) (Nat.le_of_ble_eq_true rfl) (by rw [hk_9]; decide) (by rw [hk_9]; decide +kernel) (by simp [hk_9])
        · skip
          have w_10 := wn_t c_8
          refine lv_iload hC.1 hC.2.1 d_cr_piece_39 (lv_at hl 4 rfl) ?_
          refine lv_iconst (v := iI 1) hC.1 hC.2.1 d_cr_piece_41 rfl ?_
          refine lv_bipush (v := iI 100) hC.1 hC.2.1 d_cr_piece_42 (by decide +kernel) ?_
          refine go_R (ca_S (As := [.int (iI (w)), .int (iI (1)), .int (iI (100))]) (rest := []) hC hw (c_cr_isWithin l G S w 1 100 (by omega) (by omega) (by omega)) (cv_cr_56 hC rfl rfl (Nat.le_of_ble_eq_true rfl) (Nat.le_of_ble_eq_true rfl)) rfl hl.1 rfl (Nat.le_of_ble_eq_true rfl) d_cr_piece_44 ⟨Nat.le_of_ble_eq_true rfl, Nat.le_of_ble_eq_true rfl⟩) ?_
          refine ir_bne (tgt := 60) hC d_cr_piece_47 (by decide) (fun c_11 => ?_) (fun c_11 => ?_)
          · skip
            have w_12 := wn_t c_11
            refine lv_aload_n hC.1 hC.2.1 d_cr_piece_60 rfl (lv_at hl 0 rfl) ?_
            refine gf_cr_12 hC hw d_cr_piece_61 ?_
            refine gf_cr_62 hC hw d_cr_piece_64 ?_
            have b_13 := iv_1 hI 0
            refine lv_bipush (v := iI 12) hC.1 hC.2.1 d_cr_piece_67 (by decide +kernel) ?_
            refine ir_lt (tgt := 82) hC.1 hC.2.1 d_cr_piece_69 (by decide) ⟨by omega, by omega⟩ (by decide) (fun c_14 => ?_) (fun c_14 => ?_)
            · skip
              refine lv_aload_n hC.1 hC.2.1 d_cr_piece_82 rfl (lv_at hl 0 rfl) ?_
              refine gf_cr_12 hC hw d_cr_piece_83 ?_
              refine lv_iload_n hC.1 hC.2.1 d_cr_piece_86 rfl (lv_at hl 1 rfl) ?_
              refine lv_iload_n hC.1 hC.2.1 d_cr_piece_87 rfl (lv_at hl 2 rfl) ?_
              refine lv_iload_n hC.1 hC.2.1 d_cr_piece_88 rfl (lv_at hl 3 rfl) ?_
              refine lv_iload hC.1 hC.2.1 d_cr_piece_89 (lv_at hl 4 rfl) ?_
              refine go_W (ca_V (As := [.int (iI (a)), .int (iI (b)), .int (iI (n)), .int (iI (w))]) (rest := []) hC hw (c_pc_add l G S a b n w hI (by omega) (by omega) (by omega) (by omega) (by omega)) (cv_cr_70 hC rfl rfl (Nat.le_of_ble_eq_true rfl) (Nat.le_of_ble_eq_true rfl)) (by decide) rfl rfl rfl hl.1 rfl (Nat.le_of_ble_eq_true rfl) d_cr_piece_91 ⟨Nat.le_of_ble_eq_true rfl, Nat.le_of_ble_eq_true rfl⟩) hw (fun H locs hw => ?_)
              have hk_15 : kPc S a b n w = 0 := (by first | (simp [kPc, c_1, c_4, c_7, c_8, c_11, c_14]; done) | (simp [kPc, c_1, c_4, c_7, c_8, c_11, c_14]; omega) | (simp [kPc, c_1, c_4, c_7, c_8, c_11, c_14]; done) | (simp [kPc, c_1, c_4, c_7, c_8, c_11, c_14]; omega) | omega)
              exact rx_W hC hr hlk hw hk_15 rfl (by simp [hk_15]) d_cr_piece_94 (Nat.zero_le _) (Nat.zero_le _)
            · skip
              have hk_16 : kPc S a b n w = 2 := (by first | (simp [kPc, c_1, c_4, c_7, c_8, c_11, c_14]; done) | (simp [kPc, c_1, c_4, c_7, c_8, c_11, c_14]; omega) | (simp [kPc, c_1, c_4, c_7, c_8, c_11, c_14]; done) | (simp [kPc, c_1, c_4, c_7, c_8, c_11, c_14]; omega) | omega)
              exact th_S (X := "java/lang/IllegalStateException") (txt := "there are 12 pieces") hC (hl0 e hadm) hw hxw hlk hex hl.1 tw_325 tw_326 tw_10 (by decide) own_69 (by decide +kernel) d_cr_piece_72 d_cr_piece_75 d_cr_piece_76 d_cr_piece_78 d_cr_piece_81 (Nat.le_of_ble_eq_true rfl) (Nat.le_of_ble_eq_true rfl) (Nat.le_of_ble_eq_true rfl) (Nat.le_of_ble_eq_true rfl) (by rw [hk_16]; decide) (by rw [hk_16]; decide +kernel) (by simp [hk_16])
          · skip
            have hk_17 : kPc S a b n w = 1 := (by first | (simp [kPc, c_1, c_4, c_7, c_8, c_11]; done) | (simp [kPc, c_1, c_4, c_7, c_8, c_11]; omega) | (simp [kPc, c_1, c_4, c_7, c_8, c_11]; done) | (simp [kPc, c_1, c_4, c_7, c_8, c_11]; omega) | omega)
            exact th_S (X := "java/lang/IllegalArgumentException") (txt := "length and width are 1 to 100") hC (hl0 e hadm) hw hxw hlk hex hl.1 tw_256 tw_257 tw_9 (by decide) own_53 (by decide +kernel) d_cr_piece_50 d_cr_piece_53 d_cr_piece_54 d_cr_piece_56 d_cr_piece_59 (Nat.le_of_ble_eq_true rfl) (Nat.le_of_ble_eq_true rfl) (Nat.le_of_ble_eq_true rfl) (Nat.le_of_ble_eq_true rfl) (by rw [hk_17]; decide) (by rw [hk_17]; decide +kernel) (by simp [hk_17])
      · skip
        have hk_18 : kPc S a b n w = 1 := (by first | (simp [kPc, c_1, c_4, c_7]; done) | (simp [kPc, c_1, c_4, c_7]; omega) | (simp [kPc, c_1, c_4, c_7]; done) | (simp [kPc, c_1, c_4, c_7]; omega) | omega)
        exact th_S (X := "java/lang/IllegalArgumentException") (txt := "a piece joins two points of 0 to 7") hC (hl0 e hadm) hw hxw hlk hex hl.1 tw_256 tw_257 tw_9 (by decide) own_53 (by decide +kernel) d_cr_piece_19 d_cr_piece_22 d_cr_piece_23 d_cr_piece_25 d_cr_piece_28 (Nat.le_of_ble_eq_true rfl) (Nat.le_of_ble_eq_true rfl) (Nat.le_of_ble_eq_true rfl) (Nat.le_of_ble_eq_true rfl) (by rw [hk_18]; decide) (by rw [hk_18]; decide +kernel) (by simp [hk_18])
set_option maxHeartbeats 4000000 in
set_option maxRecDepth 100000 in
theorem c_cr_ship (l : Launch) (hl0 : ∀ e : Env, l.admits e → e.platform.stackTraces = false) (G : Gt) (S : St) (a : Int) (b : Int) (d : Int) (hI : Inv S) (ha : i32 a) (hb : i32 b) (hd : i32 d) : MetX l y_cr_ship [.code y_cr_ship b_cr_ship 4 (some .int)] { frames := 7, cells := 1, slots := 6, locals := 120 } (va_Pc [.ref (G.2.1 0), .int (iI (a)), .int (iI (b)), .int (iI (d))] (fun U => wu G S U ∧ exw txs U)) (qX G (if kSh S a b d = 0 then sAdd S a b d else S) (kSh S a b d) (S 2 0)) 1 6 (gA G) := by
  refine mtx_of (by decide +kernel) (Nat.le_of_ble_eq_true rfl) ?_
  intro p e s m below meth c ls hadm hC hr hlk hex hw hxw hl
  have hC : CallFix p m c b_cr_ship 4 s _ tws "ChannelRules" := hC
  have hl : lv_has ls 4 [(0, .ref (G.2.1 0)), (1, .int (iI (a))), (2, .int (iI (b))), (3, .int (iI (d)))] := hl
  refine lv_iload_n hC.1 hC.2.1 d_cr_ship_0 rfl (lv_at hl 1 rfl) ?_
  refine lv_iconst (v := iI 1) hC.1 hC.2.1 d_cr_ship_1 rfl ?_
  refine lv_bipush (v := iI 100) hC.1 hC.2.1 d_cr_ship_2 (by decide +kernel) ?_
  refine go_R (ca_S (As := [.int (iI (a)), .int (iI (1)), .int (iI (100))]) (rest := []) hC hw (c_cr_isWithin l G S a 1 100 (by omega) (by omega) (by omega)) (cv_cr_56 hC rfl rfl (Nat.le_of_ble_eq_true rfl) (Nat.le_of_ble_eq_true rfl)) rfl hl.1 rfl (Nat.le_of_ble_eq_true rfl) d_cr_ship_4 ⟨Nat.le_of_ble_eq_true rfl, Nat.le_of_ble_eq_true rfl⟩) ?_
  refine ir_beq (tgt := 29) hC d_cr_ship_7 (by decide) (fun c_1 => ?_) (fun c_1 => ?_)
  · skip
    have hk_2 : kSh S a b d = 1 := (by first | (simp [kSh, c_1]; done) | (simp [kSh, c_1]; omega) | (simp [kSh, c_1]; done) | (simp [kSh, c_1]; omega) | omega)
    exact th_S (X := "java/lang/IllegalArgumentException") (txt := "width is 1 to 100, speed 1 to 20, class 0 to 2") hC (hl0 e hadm) hw hxw hlk hex hl.1 tw_256 tw_257 tw_9 (by decide) own_53 (by decide +kernel) d_cr_ship_29 d_cr_ship_32 d_cr_ship_33 d_cr_ship_35 d_cr_ship_38 (Nat.le_of_ble_eq_true rfl) (Nat.le_of_ble_eq_true rfl) (Nat.le_of_ble_eq_true rfl) (Nat.le_of_ble_eq_true rfl) (by rw [hk_2]; decide) (by rw [hk_2]; decide +kernel) (by simp [hk_2])
  · skip
    have w_3 := wn_t c_1
    refine lv_iload_n hC.1 hC.2.1 d_cr_ship_10 rfl (lv_at hl 2 rfl) ?_
    refine lv_iconst (v := iI 1) hC.1 hC.2.1 d_cr_ship_11 rfl ?_
    refine lv_bipush (v := iI 20) hC.1 hC.2.1 d_cr_ship_12 (by decide +kernel) ?_
    refine go_R (ca_S (As := [.int (iI (b)), .int (iI (1)), .int (iI (20))]) (rest := []) hC hw (c_cr_isWithin l G S b 1 20 (by omega) (by omega) (by omega)) (cv_cr_56 hC rfl rfl (Nat.le_of_ble_eq_true rfl) (Nat.le_of_ble_eq_true rfl)) rfl hl.1 rfl (Nat.le_of_ble_eq_true rfl) d_cr_ship_14 ⟨Nat.le_of_ble_eq_true rfl, Nat.le_of_ble_eq_true rfl⟩) ?_
    refine ir_beq (tgt := 29) hC d_cr_ship_17 (by decide) (fun c_4 => ?_) (fun c_4 => ?_)
    · skip
      have hk_5 : kSh S a b d = 1 := (by first | (simp [kSh, c_1, c_4]; done) | (simp [kSh, c_1, c_4]; omega) | (simp [kSh, c_1, c_4]; done) | (simp [kSh, c_1, c_4]; omega) | omega)
      exact th_S (X := "java/lang/IllegalArgumentException") (txt := "width is 1 to 100, speed 1 to 20, class 0 to 2") hC (hl0 e hadm) hw hxw hlk hex hl.1 tw_256 tw_257 tw_9 (by decide) own_53 (by decide +kernel) d_cr_ship_29 d_cr_ship_32 d_cr_ship_33 d_cr_ship_35 d_cr_ship_38 (Nat.le_of_ble_eq_true rfl) (Nat.le_of_ble_eq_true rfl) (Nat.le_of_ble_eq_true rfl) (Nat.le_of_ble_eq_true rfl) (by rw [hk_5]; decide) (by rw [hk_5]; decide +kernel) (by simp [hk_5])
    · skip
      have w_6 := wn_t c_4
      refine lv_iload_n hC.1 hC.2.1 d_cr_ship_20 rfl (lv_at hl 3 rfl) ?_
      refine lv_iconst (v := iI 0) hC.1 hC.2.1 d_cr_ship_21 rfl ?_
      refine lv_iconst (v := iI 2) hC.1 hC.2.1 d_cr_ship_22 rfl ?_
      refine go_R (ca_S (As := [.int (iI (d)), .int (iI (0)), .int (iI (2))]) (rest := []) hC hw (c_cr_isWithin l G S d 0 2 (by omega) (by omega) (by omega)) (cv_cr_56 hC rfl rfl (Nat.le_of_ble_eq_true rfl) (Nat.le_of_ble_eq_true rfl)) rfl hl.1 rfl (Nat.le_of_ble_eq_true rfl) d_cr_ship_23 ⟨Nat.le_of_ble_eq_true rfl, Nat.le_of_ble_eq_true rfl⟩) ?_
      refine ir_bne (tgt := 39) hC d_cr_ship_26 (by decide) (fun c_7 => ?_) (fun c_7 => ?_)
      · skip
        have w_8 := wn_t c_7
        refine lv_aload_n hC.1 hC.2.1 d_cr_ship_39 rfl (lv_at hl 0 rfl) ?_
        refine gf_cr_19 hC hw d_cr_ship_40 ?_
        refine gf_cr_86 hC hw d_cr_ship_43 ?_
        have b_9 := iv_2 hI 0
        refine lv_bipush (v := iI 12) hC.1 hC.2.1 d_cr_ship_46 (by decide +kernel) ?_
        refine ir_lt (tgt := 61) hC.1 hC.2.1 d_cr_ship_48 (by decide) ⟨by omega, by omega⟩ (by decide) (fun c_10 => ?_) (fun c_10 => ?_)
        · skip
          refine lv_aload_n hC.1 hC.2.1 d_cr_ship_61 rfl (lv_at hl 0 rfl) ?_
          refine gf_cr_19 hC hw d_cr_ship_62 ?_
          refine lv_iload_n hC.1 hC.2.1 d_cr_ship_65 rfl (lv_at hl 1 rfl) ?_
          refine lv_iload_n hC.1 hC.2.1 d_cr_ship_66 rfl (lv_at hl 2 rfl) ?_
          refine lv_iload_n hC.1 hC.2.1 d_cr_ship_67 rfl (lv_at hl 3 rfl) ?_
          refine go_W (ca_V (As := [.int (iI (a)), .int (iI (b)), .int (iI (d))]) (rest := []) hC hw (c_sh_add l G S a b d hI (by omega) (by omega) (by omega) (by omega)) (cv_cr_89 hC rfl rfl (Nat.le_of_ble_eq_true rfl) (Nat.le_of_ble_eq_true rfl)) (by decide) rfl rfl rfl hl.1 rfl (Nat.le_of_ble_eq_true rfl) d_cr_ship_68 ⟨Nat.le_of_ble_eq_true rfl, Nat.le_of_ble_eq_true rfl⟩) hw (fun H locs hw => ?_)
          have hk_11 : kSh S a b d = 0 := (by first | (simp [kSh, c_1, c_4, c_7, c_10]; done) | (simp [kSh, c_1, c_4, c_7, c_10]; omega) | (simp [kSh, c_1, c_4, c_7, c_10]; done) | (simp [kSh, c_1, c_4, c_7, c_10]; omega) | omega)
          exact rx_W hC hr hlk hw hk_11 rfl (by simp [hk_11]) d_cr_ship_71 (Nat.zero_le _) (Nat.zero_le _)
        · skip
          have hk_12 : kSh S a b d = 2 := (by first | (simp [kSh, c_1, c_4, c_7, c_10]; done) | (simp [kSh, c_1, c_4, c_7, c_10]; omega) | (simp [kSh, c_1, c_4, c_7, c_10]; done) | (simp [kSh, c_1, c_4, c_7, c_10]; omega) | omega)
          exact th_S (X := "java/lang/IllegalStateException") (txt := "there are 12 ships") hC (hl0 e hadm) hw hxw hlk hex hl.1 tw_325 tw_326 tw_10 (by decide) own_69 (by decide +kernel) d_cr_ship_51 d_cr_ship_54 d_cr_ship_55 d_cr_ship_57 d_cr_ship_60 (Nat.le_of_ble_eq_true rfl) (Nat.le_of_ble_eq_true rfl) (Nat.le_of_ble_eq_true rfl) (Nat.le_of_ble_eq_true rfl) (by rw [hk_12]; decide) (by rw [hk_12]; decide +kernel) (by simp [hk_12])
      · skip
        have hk_13 : kSh S a b d = 1 := (by first | (simp [kSh, c_1, c_4, c_7]; done) | (simp [kSh, c_1, c_4, c_7]; omega) | (simp [kSh, c_1, c_4, c_7]; done) | (simp [kSh, c_1, c_4, c_7]; omega) | omega)
        exact th_S (X := "java/lang/IllegalArgumentException") (txt := "width is 1 to 100, speed 1 to 20, class 0 to 2") hC (hl0 e hadm) hw hxw hlk hex hl.1 tw_256 tw_257 tw_9 (by decide) own_53 (by decide +kernel) d_cr_ship_29 d_cr_ship_32 d_cr_ship_33 d_cr_ship_35 d_cr_ship_38 (Nat.le_of_ble_eq_true rfl) (Nat.le_of_ble_eq_true rfl) (Nat.le_of_ble_eq_true rfl) (Nat.le_of_ble_eq_true rfl) (by rw [hk_13]; decide) (by rw [hk_13]; decide +kernel) (by simp [hk_13])
set_option maxHeartbeats 4000000 in
set_option maxRecDepth 100000 in
theorem c_cr_close (l : Launch) (hl0 : ∀ e : Env, l.admits e → e.platform.stackTraces = false) (G : Gt) (S : St) (q : Int) (a : Int) (b : Int) (hI : Inv S) (hq : i32 q) (ha : i32 a) (hb : i32 b) : MetX l y_cr_close [.code y_cr_close b_cr_close 4 (some .int)] { frames := 7, cells := 1, slots := 6, locals := 120 } (va_Pc [.ref (G.2.1 0), .int (iI (q)), .int (iI (a)), .int (iI (b))] (fun U => wu G S U ∧ exw txs U)) (qX G (if kCl S q a b = 0 then eSt (aSp S q a b) q a b (aSp S q a b 3 0).toNat else S) (kCl S q a b) (eCt (aSp S q a b) q a b (aSp S q a b 3 0).toNat)) 1 6 (gA G) := by
  refine mtx_of (by decide +kernel) (Nat.le_of_ble_eq_true rfl) ?_
  intro p e s m below meth c ls hadm hC hr hlk hex hw hxw hl
  have hC : CallFix p m c b_cr_close 4 s _ tws "ChannelRules" := hC
  have hl : lv_has ls 4 [(0, .ref (G.2.1 0)), (1, .int (iI (q))), (2, .int (iI (a))), (3, .int (iI (b)))] := hl
  have i0 := iv_0 hI 6
  have i1 := iv_1 hI 0
  refine lv_aload_n hC.1 hC.2.1 d_cr_close_0 rfl (lv_at hl 0 rfl) ?_
  refine gf_cr_12 hC hw d_cr_close_1 ?_
  refine lv_iload_n hC.1 hC.2.1 d_cr_close_4 rfl (lv_at hl 1 rfl) ?_
  refine go_R (ca_V (As := [.int (iI (q))]) (rest := []) hC hw (c_pc_has l G S q hI (by omega)) (cv_cr_74 hC rfl rfl (Nat.le_of_ble_eq_true rfl) (Nat.le_of_ble_eq_true rfl)) (by decide) rfl rfl rfl hl.1 rfl (Nat.le_of_ble_eq_true rfl) d_cr_close_5 ⟨Nat.le_of_ble_eq_true rfl, Nat.le_of_ble_eq_true rfl⟩) ?_
  refine ir_beq (tgt := 30) hC d_cr_close_8 (by decide) (fun c_1 => ?_) (fun c_1 => ?_)
  · skip
    have hk_2 : kCl S q a b = 1 := (by first | (simp [kCl, c_1]; done) | (simp [kCl, c_1]; omega) | (simp [kCl, c_1]; done) | (simp [kCl, c_1]; omega) | omega)
    exact th_S (X := "java/lang/IllegalArgumentException") (txt := "no such piece, or not such times") hC (hl0 e hadm) hw hxw hlk hex hl.1 tw_256 tw_257 tw_9 (by decide) own_53 (by decide +kernel) d_cr_close_30 d_cr_close_33 d_cr_close_34 d_cr_close_36 d_cr_close_39 (Nat.le_of_ble_eq_true rfl) (Nat.le_of_ble_eq_true rfl) (Nat.le_of_ble_eq_true rfl) (Nat.le_of_ble_eq_true rfl) (by rw [hk_2]; decide) (by rw [hk_2]; decide +kernel) (by simp [hk_2])
  · skip
    have w_3 := wn_t c_1
    refine lv_iload_n hC.1 hC.2.1 d_cr_close_11 rfl (lv_at hl 2 rfl) ?_
    refine lv_aload_n hC.1 hC.2.1 d_cr_close_12 rfl (lv_at hl 0 rfl) ?_
    refine gf_cr_41 hC hw d_cr_close_13 ?_
    have b_4 := iv_0 hI 6
    refine ir_lt (tgt := 30) hC.1 hC.2.1 d_cr_close_16 (by decide) ⟨by omega, by omega⟩ ⟨by omega, by omega⟩ (fun c_5 => ?_) (fun c_5 => ?_)
    · skip
      have hk_6 : kCl S q a b = 1 := (by first | (simp [kCl, c_1, c_5]; done) | (simp [kCl, c_1, c_5]; omega) | (simp [kCl, c_1, c_5]; done) | (simp [kCl, c_1, c_5]; omega) | omega)
      exact th_S (X := "java/lang/IllegalArgumentException") (txt := "no such piece, or not such times") hC (hl0 e hadm) hw hxw hlk hex hl.1 tw_256 tw_257 tw_9 (by decide) own_53 (by decide +kernel) d_cr_close_30 d_cr_close_33 d_cr_close_34 d_cr_close_36 d_cr_close_39 (Nat.le_of_ble_eq_true rfl) (Nat.le_of_ble_eq_true rfl) (Nat.le_of_ble_eq_true rfl) (Nat.le_of_ble_eq_true rfl) (by rw [hk_6]; decide) (by rw [hk_6]; decide +kernel) (by simp [hk_6])
    · skip
      refine lv_iload_n hC.1 hC.2.1 d_cr_close_19 rfl (lv_at hl 2 rfl) ?_
      refine lv_iload_n hC.1 hC.2.1 d_cr_close_20 rfl (lv_at hl 3 rfl) ?_
      refine ir_ge (tgt := 30) hC.1 hC.2.1 d_cr_close_21 (by decide) ⟨by omega, by omega⟩ ⟨by omega, by omega⟩ (fun c_7 => ?_) (fun c_7 => ?_)
      · skip
        have hk_8 : kCl S q a b = 1 := (by first | (simp [kCl, c_1, c_5, c_7]; done) | (simp [kCl, c_1, c_5, c_7]; omega) | (simp [kCl, c_1, c_5, c_7]; done) | (simp [kCl, c_1, c_5, c_7]; omega) | omega)
        exact th_S (X := "java/lang/IllegalArgumentException") (txt := "no such piece, or not such times") hC (hl0 e hadm) hw hxw hlk hex hl.1 tw_256 tw_257 tw_9 (by decide) own_53 (by decide +kernel) d_cr_close_30 d_cr_close_33 d_cr_close_34 d_cr_close_36 d_cr_close_39 (Nat.le_of_ble_eq_true rfl) (Nat.le_of_ble_eq_true rfl) (Nat.le_of_ble_eq_true rfl) (Nat.le_of_ble_eq_true rfl) (by rw [hk_8]; decide) (by rw [hk_8]; decide +kernel) (by simp [hk_8])
      · skip
        refine lv_iload_n hC.1 hC.2.1 d_cr_close_24 rfl (lv_at hl 3 rfl) ?_
        refine ir_ldc hC 100000 tw_186 (by decide +kernel) d_cr_close_25 ?_
        refine ir_le (tgt := 40) hC.1 hC.2.1 d_cr_close_27 (by decide) ⟨by omega, by omega⟩ (by decide) (fun c_9 => ?_) (fun c_9 => ?_)
        · skip
          refine lv_aload_n hC.1 hC.2.1 d_cr_close_40 rfl (lv_at hl 0 rfl) ?_
          refine gf_cr_12 hC hw d_cr_close_41 ?_
          refine gf_cr_148 hC hw d_cr_close_44 ?_
          refine lv_iload_n hC.1 hC.2.1 d_cr_close_47 rfl (lv_at hl 1 rfl) ?_
          refine ld_11 hC hw (by omega) (by omega) d_cr_close_48 ?_
          have b_10 := iv_11 hI q.toNat
          refine lv_iconst (v := iI 4) hC.1 hC.2.1 d_cr_close_49 rfl ?_
          refine ir_lt (tgt := 63) hC.1 hC.2.1 d_cr_close_50 (by decide) ⟨by omega, by omega⟩ (by decide) (fun c_11 => ?_) (fun c_11 => ?_)
          · skip
            refine lv_aload_n hC.1 hC.2.1 d_cr_close_63 rfl (lv_at hl 0 rfl) ?_
            refine gf_cr_12 hC hw d_cr_close_64 ?_
            refine lv_iload_n hC.1 hC.2.1 d_cr_close_67 rfl (lv_at hl 1 rfl) ?_
            refine lv_iload_n hC.1 hC.2.1 d_cr_close_68 rfl (lv_at hl 2 rfl) ?_
            refine lv_iload_n hC.1 hC.2.1 d_cr_close_69 rfl (lv_at hl 3 rfl) ?_
            refine go_V (ca_V (As := [.int (iI (q)), .int (iI (a)), .int (iI (b))]) (rest := []) hC hw (c_pc_addSpan l G S q a b hI (by omega) (by omega) (by omega) (by omega)) (cv_cr_153 hC rfl rfl (Nat.le_of_ble_eq_true rfl) (Nat.le_of_ble_eq_true rfl)) (by decide) rfl rfl rfl hl.1 rfl (Nat.le_of_ble_eq_true rfl) d_cr_close_70 ⟨Nat.le_of_ble_eq_true rfl, Nat.le_of_ble_eq_true rfl⟩) hw (fun H locs hw => ?_)
            refine lv_aload_n hC.1 hC.2.1 d_cr_close_73 rfl (lv_at hl 0 rfl) ?_
            refine lv_iload_n hC.1 hC.2.1 d_cr_close_74 rfl (lv_at hl 1 rfl) ?_
            refine lv_iload_n hC.1 hC.2.1 d_cr_close_75 rfl (lv_at hl 2 rfl) ?_
            refine lv_iload_n hC.1 hC.2.1 d_cr_close_76 rfl (lv_at hl 3 rfl) ?_
            refine go_W (ca_V (As := [.int (iI (q)), .int (iI (a)), .int (iI (b))]) (rest := []) hC hw (c_cr_endSlotsOn l G (aSp S q a b) q a b (aSp_I hI (by omega) (by omega) (by omega)) (by omega) (by omega) (by omega)) (cv_cr_156 hC rfl rfl (Nat.le_of_ble_eq_true rfl) (Nat.le_of_ble_eq_true rfl)) (by decide) rfl rfl rfl hl.1 rfl (Nat.le_of_ble_eq_true rfl) d_cr_close_77 ⟨Nat.le_of_ble_eq_true rfl, Nat.le_of_ble_eq_true rfl⟩) hw (fun H locs hw => ?_)
            have hk_12 : kCl S q a b = 0 := (by first | (simp [kCl, c_1, c_5, c_7, c_9, c_11]; done) | (simp [kCl, c_1, c_5, c_7, c_9, c_11]; omega) | (simp [kCl, c_1, c_5, c_7, c_9, c_11]; done) | (simp [kCl, c_1, c_5, c_7, c_9, c_11]; omega) | omega)
            exact rx_W hC hr hlk hw hk_12 rfl (by simp [hk_12]) d_cr_close_80 (Nat.zero_le _) (Nat.zero_le _)
          · skip
            have hk_13 : kCl S q a b = 2 := (by first | (simp [kCl, c_1, c_5, c_7, c_9, c_11]; done) | (simp [kCl, c_1, c_5, c_7, c_9, c_11]; omega) | (simp [kCl, c_1, c_5, c_7, c_9, c_11]; done) | (simp [kCl, c_1, c_5, c_7, c_9, c_11]; omega) | omega)
            exact th_S (X := "java/lang/IllegalStateException") (txt := "the piece has 4 closed spans") hC (hl0 e hadm) hw hxw hlk hex hl.1 tw_325 tw_326 tw_10 (by decide) own_69 (by decide +kernel) d_cr_close_53 d_cr_close_56 d_cr_close_57 d_cr_close_59 d_cr_close_62 (Nat.le_of_ble_eq_true rfl) (Nat.le_of_ble_eq_true rfl) (Nat.le_of_ble_eq_true rfl) (Nat.le_of_ble_eq_true rfl) (by rw [hk_13]; decide) (by rw [hk_13]; decide +kernel) (by simp [hk_13])
        · skip
          have hk_14 : kCl S q a b = 1 := (by first | (simp [kCl, c_1, c_5, c_7, c_9]; done) | (simp [kCl, c_1, c_5, c_7, c_9]; omega) | (simp [kCl, c_1, c_5, c_7, c_9]; done) | (simp [kCl, c_1, c_5, c_7, c_9]; omega) | omega)
          exact th_S (X := "java/lang/IllegalArgumentException") (txt := "no such piece, or not such times") hC (hl0 e hadm) hw hxw hlk hex hl.1 tw_256 tw_257 tw_9 (by decide) own_53 (by decide +kernel) d_cr_close_30 d_cr_close_33 d_cr_close_34 d_cr_close_36 d_cr_close_39 (Nat.le_of_ble_eq_true rfl) (Nat.le_of_ble_eq_true rfl) (Nat.le_of_ble_eq_true rfl) (Nat.le_of_ble_eq_true rfl) (by rw [hk_14]; decide) (by rw [hk_14]; decide +kernel) (by simp [hk_14])

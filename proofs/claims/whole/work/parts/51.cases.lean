/-! the law, case by case: calls under helpers -/
set_option maxHeartbeats 4000000 in
set_option maxRecDepth 100000 in
theorem lc_piece {p : Program} {l : Launch} {e : Env} {s : State} {m : MethodId} {below : List Frame} {meth : Method} {c : Code} {H : Heap} {locs : List Loc} {cells slots b L : Nat} {Q : State → Prop} {xs : Nat → Int32} {ls : Array Slot} {G : Gt} {S : St} {j : Nat} (hK : LwC p l s m c b L xs G) (hR : Rel S) (hj : 5 * j + 5 ≤ L) (hw : wh G S s H locs) (hl : lv_has ls 7 [(0, Value.ref b), (1, Value.ref (G.2.1 0)), (2, Value.ref (G.2.1 25)), (3, Value.ref (G.2.1 44)), (4, Value.int (iI (5 * (j : Int))))]) (hcl : cells + 1 ≤ 1083 ∧ slots + 6 ≤ 10652)
    (kk : ∀ (S' : St) (H : Heap) (locs : List Loc) (ls : Array Slot), Rel S' → wh G S' s H locs → lv_has ls 7 [(0, Value.ref b), (1, Value.ref (G.2.1 0)), (2, Value.ref (G.2.1 25)), (3, Value.ref (G.2.1 44)), (4, Value.int (iI (5 * (j : Int))))] → W p l e room_1 s m #[Value.ref b] below meth c H locs (cells + 1) (slots + 6) Q (F0 m 1017 ls [])) : W p l e room_1 s m #[Value.ref b] below meth c H locs cells slots Q (F0 m 108 ls []) := by
  have hC := hK.1
  have hl0 := hK.2.2.2.2.2.2.2.1
  have hLb := hK.2.2.2.2.2.2.2.2
  refine lv_aload_n hC.1 hC.2.1 d_lw_law_108 rfl (lv_at hl 1 rfl) ?_
  refine lv_aload_n hC.1 hC.2.1 d_lw_law_109 rfl (lv_at hl 0 rfl) ?_
  refine lv_iload hC.1 hC.2.1 d_lw_law_110 (lv_at hl 4 rfl) ?_
  refine lv_iconst (v := iI 1) hC.1 hC.2.1 d_lw_law_112 rfl ?_
  refine ir_add hC.1 hC.2.1 d_lw_law_113 ?_
  refine sl_ld hK hw (z := 5 * (j : Int) + 1) (by omega) (by omega) d_lw_law_114 ?_
  refine lv_aload_n hC.1 hC.2.1 d_lw_law_115 rfl (lv_at hl 0 rfl) ?_
  refine lv_iload hC.1 hC.2.1 d_lw_law_116 (lv_at hl 4 rfl) ?_
  refine lv_iconst (v := iI 2) hC.1 hC.2.1 d_lw_law_118 rfl ?_
  refine ir_add hC.1 hC.2.1 d_lw_law_119 ?_
  refine sl_ld hK hw (z := 5 * (j : Int) + 2) (by omega) (by omega) d_lw_law_120 ?_
  refine lv_aload_n hC.1 hC.2.1 d_lw_law_121 rfl (lv_at hl 0 rfl) ?_
  refine lv_iload hC.1 hC.2.1 d_lw_law_122 (lv_at hl 4 rfl) ?_
  refine lv_iconst (v := iI 3) hC.1 hC.2.1 d_lw_law_124 rfl ?_
  refine ir_add hC.1 hC.2.1 d_lw_law_125 ?_
  refine sl_ld hK hw (z := 5 * (j : Int) + 3) (by omega) (by omega) d_lw_law_126 ?_
  refine lv_aload_n hC.1 hC.2.1 d_lw_law_127 rfl (lv_at hl 0 rfl) ?_
  refine lv_iload hC.1 hC.2.1 d_lw_law_128 (lv_at hl 4 rfl) ?_
  refine lv_iconst (v := iI 4) hC.1 hC.2.1 d_lw_law_130 rfl ?_
  refine ir_add hC.1 hC.2.1 d_lw_law_131 ?_
  refine sl_ld hK hw (z := 5 * (j : Int) + 4) (by omega) (by omega) d_lw_law_132 ?_
  refine lv_aload_n hC.1 hC.2.1 d_lw_law_133 rfl (lv_at hl 3 rfl) ?_
  refine go_H (run_H (As := [Value.ref (G.2.1 0), Value.int (iI (xs (5 * (j : Int) + 1).toNat).toInt), Value.int (iI (xs (5 * (j : Int) + 2).toNat).toInt), Value.int (iI (xs (5 * (j : Int) + 3).toNat).toInt), Value.int (iI (xs (5 * (j : Int) + 4).toNat).toInt), Value.ref (G.2.1 44)]) (rest := []) hK hw (c_lw_piece l hl0 G S (xs (5 * (j : Int) + 1).toNat).toInt (xs (5 * (j : Int) + 2).toNat).toInt (xs (5 * (j : Int) + 3).toNat).toInt (xs (5 * (j : Int) + 4).toNat).toInt hR.1 (iI_b _) (iI_b _) (iI_b _) (iI_b _)) tw_246 tw_0 tw_6 tw_245 tw_244 rfl rfl (Nat.le_of_ble_eq_true rfl) (Nat.le_of_ble_eq_true rfl) (n := 6) (by decide +kernel) rfl hl.1 rfl (Nat.le_of_ble_eq_true rfl) d_lw_law_134 hcl) hw (fun H locs hw => ?_)
  obtain ⟨Sh, hSh⟩ : ∃ Z : St, Z = if kPc S (xs (5 * (j : Int) + 1).toNat).toInt (xs (5 * (j : Int) + 2).toNat).toInt (xs (5 * (j : Int) + 3).toNat).toInt (xs (5 * (j : Int) + 4).toNat).toInt = 0 then s_up (if kPc S (xs (5 * (j : Int) + 1).toNat).toInt (xs (5 * (j : Int) + 2).toNat).toInt (xs (5 * (j : Int) + 3).toNat).toInt (xs (5 * (j : Int) + 4).toNat).toInt = 0 then pAdd S (xs (5 * (j : Int) + 1).toNat).toInt (xs (5 * (j : Int) + 2).toNat).toInt (xs (5 * (j : Int) + 3).toNat).toInt (xs (5 * (j : Int) + 4).toNat).toInt else S) 44 0 (iI (S 1 0)).toInt else if kPc S (xs (5 * (j : Int) + 1).toNat).toInt (xs (5 * (j : Int) + 2).toNat).toInt (xs (5 * (j : Int) + 3).toNat).toInt (xs (5 * (j : Int) + 4).toNat).toInt = 0 then pAdd S (xs (5 * (j : Int) + 1).toNat).toInt (xs (5 * (j : Int) + 2).toNat).toInt (xs (5 * (j : Int) + 3).toNat).toInt (xs (5 * (j : Int) + 4).toNat).toInt else S := ⟨_, rfl⟩
  rw [← hSh] at hw
  obtain ⟨w1, w2, w3, w4, w5, w6, w7⟩ := w_piece hR hSh
  have kr := kPc_r S (xs (5 * (j : Int) + 1).toNat).toInt (xs (5 * (j : Int) + 2).toNat).toInt (xs (5 * (j : Int) + 3).toNat).toInt (xs (5 * (j : Int) + 4).toNat).toInt
  obtain ⟨ans, hans⟩ : ∃ z : Int, z = kPc S (xs (5 * (j : Int) + 1).toNat).toInt (xs (5 * (j : Int) + 2).toNat).toInt (xs (5 * (j : Int) + 3).toNat).toInt (xs (5 * (j : Int) + 4).toNat).toInt := ⟨_, rfl⟩
  rw [← hans]
  refine lv_istore (lv' := [(5, Value.int (iI (ans))), (0, Value.ref b), (1, Value.ref (G.2.1 0)), (2, Value.ref (G.2.1 25)), (3, Value.ref (G.2.1 44)), (4, Value.int (iI (5 * (j : Int))))]) hC.1 hC.2.1 d_lw_law_137 hl (by decide) rfl (fun ls hl => ?_)
  refine lv_aload_n hC.1 hC.2.1 d_lw_law_139 rfl (lv_at hl 3 rfl) ?_
  refine lv_aload_n hC.1 hC.2.1 d_lw_law_140 rfl (lv_at hl 1 rfl) ?_
  refine lv_iload hC.1 hC.2.1 d_lw_law_141 (lv_at hl 5 rfl) ?_
  refine lv_iconst (v := iI 1) hC.1 hC.2.1 d_lw_law_143 rfl ?_
  refine ir_add hC.1 hC.2.1 d_lw_law_144 ?_
  refine sl_ld hK hw (z := 5 * (j : Int) + 1) (by omega) (by omega) d_lw_law_145 ?_
  refine lv_aload_n hC.1 hC.2.1 d_lw_law_146 rfl (lv_at hl 1 rfl) ?_
  refine lv_iload hC.1 hC.2.1 d_lw_law_147 (lv_at hl 5 rfl) ?_
  refine lv_iconst (v := iI 2) hC.1 hC.2.1 d_lw_law_149 rfl ?_
  refine ir_add hC.1 hC.2.1 d_lw_law_150 ?_
  refine sl_ld hK hw (z := 5 * (j : Int) + 2) (by omega) (by omega) d_lw_law_151 ?_
  refine lv_aload_n hC.1 hC.2.1 d_lw_law_152 rfl (lv_at hl 1 rfl) ?_
  refine lv_iload hC.1 hC.2.1 d_lw_law_153 (lv_at hl 5 rfl) ?_
  refine lv_iconst (v := iI 3) hC.1 hC.2.1 d_lw_law_155 rfl ?_
  refine ir_add hC.1 hC.2.1 d_lw_law_156 ?_
  refine sl_ld hK hw (z := 5 * (j : Int) + 3) (by omega) (by omega) d_lw_law_157 ?_
  refine lv_aload_n hC.1 hC.2.1 d_lw_law_158 rfl (lv_at hl 1 rfl) ?_
  refine lv_iload hC.1 hC.2.1 d_lw_law_159 (lv_at hl 5 rfl) ?_
  refine lv_iconst (v := iI 4) hC.1 hC.2.1 d_lw_law_161 rfl ?_
  refine ir_add hC.1 hC.2.1 d_lw_law_162 ?_
  refine sl_ld hK hw (z := 5 * (j : Int) + 4) (by omega) (by omega) d_lw_law_163 ?_
  refine go_W (ca_V (As := [Value.int (iI (xs (5 * (j : Int) + 1).toNat).toInt), Value.int (iI (xs (5 * (j : Int) + 2).toNat).toInt), Value.int (iI (xs (5 * (j : Int) + 3).toNat).toInt), Value.int (iI (xs (5 * (j : Int) + 4).toNat).toInt)]) (rest := []) hC hw (c_md_piece l G Sh (xs (5 * (j : Int) + 1).toNat).toInt (xs (5 * (j : Int) + 2).toNat).toInt (xs (5 * (j : Int) + 3).toNat).toInt (xs (5 * (j : Int) + 4).toNat).toInt w1 (iI_b _) (iI_b _) (iI_b _) (iI_b _)) (cv_lw_54 hC rfl rfl (Nat.le_of_ble_eq_true rfl) (Nat.le_of_ble_eq_true rfl)) (by decide) rfl rfl rfl hl.1 rfl (Nat.le_of_ble_eq_true rfl) d_lw_law_164 ⟨hcl.1, hcl.2⟩) hw (fun H locs hw => ?_)
  obtain ⟨Sm1, hSm⟩ : ∃ Z : St, Z = if kmP Sh (xs (5 * (j : Int) + 1).toNat).toInt (xs (5 * (j : Int) + 2).toNat).toInt (xs (5 * (j : Int) + 3).toNat).toInt (xs (5 * (j : Int) + 4).toNat).toInt = 0 then mAdd (s_up Sh 25 0 0) (xs (5 * (j : Int) + 1).toNat).toInt (xs (5 * (j : Int) + 2).toNat).toInt (xs (5 * (j : Int) + 3).toNat).toInt (xs (5 * (j : Int) + 4).toNat).toInt else s_up Sh 25 0 (kmP Sh (xs (5 * (j : Int) + 1).toNat).toInt (xs (5 * (j : Int) + 2).toNat).toInt (xs (5 * (j : Int) + 3).toNat).toInt (xs (5 * (j : Int) + 4).toNat).toInt) := ⟨_, rfl⟩
  rw [← hSm] at hw w5 w6 w7
  obtain ⟨rm, hrm⟩ : ∃ z : Int, z = if kmP Sh (xs (5 * (j : Int) + 1).toNat).toInt (xs (5 * (j : Int) + 2).toNat).toInt (xs (5 * (j : Int) + 3).toNat).toInt (xs (5 * (j : Int) + 4).toNat).toInt = 0 then Sh 25 1 else 0 := ⟨_, rfl⟩
  rw [← hrm] at w7 ⊢
  refine lv_istore (lv' := [(6, Value.int (iI (rm))), (5, Value.int (iI (ans))), (0, Value.ref b), (1, Value.ref (G.2.1 0)), (2, Value.ref (G.2.1 25)), (3, Value.ref (G.2.1 44)), (4, Value.int (iI (5 * (j : Int))))]) hC.1 hC.2.1 d_lw_law_167 hl (by decide) rfl (fun ls hl => ?_)
  refine lv_aload_n hC.1 hC.2.1 d_lw_law_169 rfl (lv_at hl 4 rfl) ?_
  refine go_R (ca_V (As := []) (rest := []) hC hw (c_md_thrown l G Sm1) (cv_lw_55 hC rfl rfl (Nat.le_of_ble_eq_true rfl) (Nat.le_of_ble_eq_true rfl)) (by decide) rfl rfl rfl hl.1 rfl (Nat.le_of_ble_eq_true rfl) d_lw_law_170 ⟨hcl.1, hcl.2⟩) ?_
  rw [w6, ← hans]
  refine lv_iload hC.1 hC.2.1 d_lw_law_173 (lv_at hl 1 rfl) ?_
  refine ir_eq (tgt := 180) hC.1 hC.2.1 d_lw_law_175 (by decide) ⟨by omega, by omega⟩ ⟨by omega, by omega⟩ (fun _ => ?_) (fun z => absurd rfl z)
  refine lv_iload hC.1 hC.2.1 d_lw_law_180 (lv_at hl 1 rfl) ?_
  refine ir_if_ne (tgt := 197) hC.1 hC.2.1 d_lw_law_182 (by decide) ⟨by omega, by omega⟩ (fun hne => ?_) (fun he => ?_)
  · refine lv_goto (tgt := 1017) hC.1 hC.2.1 d_lw_law_197 (by decide) ?_
    exact kk Sm1 H locs ls w5 hw (lv_sub hl [2, 3, 4, 5, 6] rfl)
  · skip
    obtain ⟨w8, w9⟩ := w7 (by omega)
    refine lv_aload_n hC.1 hC.2.1 d_lw_law_185 rfl (lv_at hl 5 rfl) ?_
    refine lv_iconst (v := iI 0) hC.1 hC.2.1 d_lw_law_186 rfl ?_
    refine ld_44 hC hw d_lw_law_187 ?_
    refine lv_iload hC.1 hC.2.1 d_lw_law_188 (lv_at hl 0 rfl) ?_
    refine lv_i2l (v := lI (iI rm).toInt) hC.1 hC.2.1 d_lw_law_190 (lI_i _) ?_
    refine lc_eq (by rw [w9, w8]) hC d_lw_law_191 ?_
    refine ir_if_eq (tgt := 197) hC.1 hC.2.1 d_lw_law_192 (by decide) (by decide) (fun _ => ?_) (fun z => absurd rfl z)
    refine lv_goto (tgt := 1017) hC.1 hC.2.1 d_lw_law_197 (by decide) ?_
    exact kk Sm1 H locs ls w5 hw (lv_sub hl [2, 3, 4, 5, 6] rfl)
set_option maxHeartbeats 4000000 in
set_option maxRecDepth 100000 in
theorem lc_ship {p : Program} {l : Launch} {e : Env} {s : State} {m : MethodId} {below : List Frame} {meth : Method} {c : Code} {H : Heap} {locs : List Loc} {cells slots b L : Nat} {Q : State → Prop} {xs : Nat → Int32} {ls : Array Slot} {G : Gt} {S : St} {j : Nat} (hK : LwC p l s m c b L xs G) (hR : Rel S) (hj : 5 * j + 5 ≤ L) (hw : wh G S s H locs) (hl : lv_has ls 7 [(0, Value.ref b), (1, Value.ref (G.2.1 0)), (2, Value.ref (G.2.1 25)), (3, Value.ref (G.2.1 44)), (4, Value.int (iI (5 * (j : Int))))]) (hcl : cells + 1 ≤ 1083 ∧ slots + 6 ≤ 10652)
    (kk : ∀ (S' : St) (H : Heap) (locs : List Loc) (ls : Array Slot), Rel S' → wh G S' s H locs → lv_has ls 7 [(0, Value.ref b), (1, Value.ref (G.2.1 0)), (2, Value.ref (G.2.1 25)), (3, Value.ref (G.2.1 44)), (4, Value.int (iI (5 * (j : Int))))] → W p l e room_1 s m #[Value.ref b] below meth c H locs (cells + 1) (slots + 6) Q (F0 m 1017 ls [])) : W p l e room_1 s m #[Value.ref b] below meth c H locs cells slots Q (F0 m 290 ls []) := by
  have hC := hK.1
  have hl0 := hK.2.2.2.2.2.2.2.1
  have hLb := hK.2.2.2.2.2.2.2.2
  refine lv_aload_n hC.1 hC.2.1 d_lw_law_290 rfl (lv_at hl 1 rfl) ?_
  refine lv_aload_n hC.1 hC.2.1 d_lw_law_291 rfl (lv_at hl 0 rfl) ?_
  refine lv_iload hC.1 hC.2.1 d_lw_law_292 (lv_at hl 4 rfl) ?_
  refine lv_iconst (v := iI 1) hC.1 hC.2.1 d_lw_law_294 rfl ?_
  refine ir_add hC.1 hC.2.1 d_lw_law_295 ?_
  refine sl_ld hK hw (z := 5 * (j : Int) + 1) (by omega) (by omega) d_lw_law_296 ?_
  refine lv_aload_n hC.1 hC.2.1 d_lw_law_297 rfl (lv_at hl 0 rfl) ?_
  refine lv_iload hC.1 hC.2.1 d_lw_law_298 (lv_at hl 4 rfl) ?_
  refine lv_iconst (v := iI 2) hC.1 hC.2.1 d_lw_law_300 rfl ?_
  refine ir_add hC.1 hC.2.1 d_lw_law_301 ?_
  refine sl_ld hK hw (z := 5 * (j : Int) + 2) (by omega) (by omega) d_lw_law_302 ?_
  refine lv_aload_n hC.1 hC.2.1 d_lw_law_303 rfl (lv_at hl 0 rfl) ?_
  refine lv_iload hC.1 hC.2.1 d_lw_law_304 (lv_at hl 4 rfl) ?_
  refine lv_iconst (v := iI 3) hC.1 hC.2.1 d_lw_law_306 rfl ?_
  refine ir_add hC.1 hC.2.1 d_lw_law_307 ?_
  refine sl_ld hK hw (z := 5 * (j : Int) + 3) (by omega) (by omega) d_lw_law_308 ?_
  refine lv_aload_n hC.1 hC.2.1 d_lw_law_309 rfl (lv_at hl 3 rfl) ?_
  refine go_H (run_H (As := [Value.ref (G.2.1 0), Value.int (iI (xs (5 * (j : Int) + 1).toNat).toInt), Value.int (iI (xs (5 * (j : Int) + 2).toNat).toInt), Value.int (iI (xs (5 * (j : Int) + 3).toNat).toInt), Value.ref (G.2.1 44)]) (rest := []) hK hw (c_lw_ship l hl0 G S (xs (5 * (j : Int) + 1).toNat).toInt (xs (5 * (j : Int) + 2).toNat).toInt (xs (5 * (j : Int) + 3).toNat).toInt hR.1 (iI_b _) (iI_b _) (iI_b _)) tw_348 tw_0 tw_6 tw_347 tw_346 rfl rfl (Nat.le_of_ble_eq_true rfl) (Nat.le_of_ble_eq_true rfl) (n := 5) (by decide +kernel) rfl hl.1 rfl (Nat.le_of_ble_eq_true rfl) d_lw_law_310 hcl) hw (fun H locs hw => ?_)
  obtain ⟨Sh, hSh⟩ : ∃ Z : St, Z = if kSh S (xs (5 * (j : Int) + 1).toNat).toInt (xs (5 * (j : Int) + 2).toNat).toInt (xs (5 * (j : Int) + 3).toNat).toInt = 0 then s_up (if kSh S (xs (5 * (j : Int) + 1).toNat).toInt (xs (5 * (j : Int) + 2).toNat).toInt (xs (5 * (j : Int) + 3).toNat).toInt = 0 then sAdd S (xs (5 * (j : Int) + 1).toNat).toInt (xs (5 * (j : Int) + 2).toNat).toInt (xs (5 * (j : Int) + 3).toNat).toInt else S) 44 0 (iI (S 2 0)).toInt else if kSh S (xs (5 * (j : Int) + 1).toNat).toInt (xs (5 * (j : Int) + 2).toNat).toInt (xs (5 * (j : Int) + 3).toNat).toInt = 0 then sAdd S (xs (5 * (j : Int) + 1).toNat).toInt (xs (5 * (j : Int) + 2).toNat).toInt (xs (5 * (j : Int) + 3).toNat).toInt else S := ⟨_, rfl⟩
  rw [← hSh] at hw
  obtain ⟨w1, w2, w3, w4, w5, w6, w7⟩ := w_ship hR hSh
  have kr := kSh_r S (xs (5 * (j : Int) + 1).toNat).toInt (xs (5 * (j : Int) + 2).toNat).toInt (xs (5 * (j : Int) + 3).toNat).toInt
  obtain ⟨ans, hans⟩ : ∃ z : Int, z = kSh S (xs (5 * (j : Int) + 1).toNat).toInt (xs (5 * (j : Int) + 2).toNat).toInt (xs (5 * (j : Int) + 3).toNat).toInt := ⟨_, rfl⟩
  rw [← hans]
  refine lv_istore (lv' := [(5, Value.int (iI (ans))), (0, Value.ref b), (1, Value.ref (G.2.1 0)), (2, Value.ref (G.2.1 25)), (3, Value.ref (G.2.1 44)), (4, Value.int (iI (5 * (j : Int))))]) hC.1 hC.2.1 d_lw_law_313 hl (by decide) rfl (fun ls hl => ?_)
  refine lv_aload_n hC.1 hC.2.1 d_lw_law_315 rfl (lv_at hl 3 rfl) ?_
  refine lv_aload_n hC.1 hC.2.1 d_lw_law_316 rfl (lv_at hl 1 rfl) ?_
  refine lv_iload hC.1 hC.2.1 d_lw_law_317 (lv_at hl 5 rfl) ?_
  refine lv_iconst (v := iI 1) hC.1 hC.2.1 d_lw_law_319 rfl ?_
  refine ir_add hC.1 hC.2.1 d_lw_law_320 ?_
  refine sl_ld hK hw (z := 5 * (j : Int) + 1) (by omega) (by omega) d_lw_law_321 ?_
  refine lv_aload_n hC.1 hC.2.1 d_lw_law_322 rfl (lv_at hl 1 rfl) ?_
  refine lv_iload hC.1 hC.2.1 d_lw_law_323 (lv_at hl 5 rfl) ?_
  refine lv_iconst (v := iI 2) hC.1 hC.2.1 d_lw_law_325 rfl ?_
  refine ir_add hC.1 hC.2.1 d_lw_law_326 ?_
  refine sl_ld hK hw (z := 5 * (j : Int) + 2) (by omega) (by omega) d_lw_law_327 ?_
  refine lv_aload_n hC.1 hC.2.1 d_lw_law_328 rfl (lv_at hl 1 rfl) ?_
  refine lv_iload hC.1 hC.2.1 d_lw_law_329 (lv_at hl 5 rfl) ?_
  refine lv_iconst (v := iI 3) hC.1 hC.2.1 d_lw_law_331 rfl ?_
  refine ir_add hC.1 hC.2.1 d_lw_law_332 ?_
  refine sl_ld hK hw (z := 5 * (j : Int) + 3) (by omega) (by omega) d_lw_law_333 ?_
  refine go_W (ca_V (As := [Value.int (iI (xs (5 * (j : Int) + 1).toNat).toInt), Value.int (iI (xs (5 * (j : Int) + 2).toNat).toInt), Value.int (iI (xs (5 * (j : Int) + 3).toNat).toInt)]) (rest := []) hC hw (c_md_ship l G Sh (xs (5 * (j : Int) + 1).toNat).toInt (xs (5 * (j : Int) + 2).toNat).toInt (xs (5 * (j : Int) + 3).toNat).toInt w1 (iI_b _) (iI_b _) (iI_b _)) (cv_lw_72 hC rfl rfl (Nat.le_of_ble_eq_true rfl) (Nat.le_of_ble_eq_true rfl)) (by decide) rfl rfl rfl hl.1 rfl (Nat.le_of_ble_eq_true rfl) d_lw_law_334 ⟨hcl.1, hcl.2⟩) hw (fun H locs hw => ?_)
  obtain ⟨Sm1, hSm⟩ : ∃ Z : St, Z = if kmS Sh (xs (5 * (j : Int) + 1).toNat).toInt (xs (5 * (j : Int) + 2).toNat).toInt (xs (5 * (j : Int) + 3).toNat).toInt = 0 then mSh (s_up Sh 25 0 0) (xs (5 * (j : Int) + 1).toNat).toInt (xs (5 * (j : Int) + 2).toNat).toInt (xs (5 * (j : Int) + 3).toNat).toInt else s_up Sh 25 0 (kmS Sh (xs (5 * (j : Int) + 1).toNat).toInt (xs (5 * (j : Int) + 2).toNat).toInt (xs (5 * (j : Int) + 3).toNat).toInt) := ⟨_, rfl⟩
  rw [← hSm] at hw w5 w6 w7
  obtain ⟨rm, hrm⟩ : ∃ z : Int, z = if kmS Sh (xs (5 * (j : Int) + 1).toNat).toInt (xs (5 * (j : Int) + 2).toNat).toInt (xs (5 * (j : Int) + 3).toNat).toInt = 0 then Sh 25 10 else 0 := ⟨_, rfl⟩
  rw [← hrm] at w7 ⊢
  refine lv_istore (lv' := [(6, Value.int (iI (rm))), (5, Value.int (iI (ans))), (0, Value.ref b), (1, Value.ref (G.2.1 0)), (2, Value.ref (G.2.1 25)), (3, Value.ref (G.2.1 44)), (4, Value.int (iI (5 * (j : Int))))]) hC.1 hC.2.1 d_lw_law_337 hl (by decide) rfl (fun ls hl => ?_)
  refine lv_aload_n hC.1 hC.2.1 d_lw_law_339 rfl (lv_at hl 4 rfl) ?_
  refine go_R (ca_V (As := []) (rest := []) hC hw (c_md_thrown l G Sm1) (cv_lw_55 hC rfl rfl (Nat.le_of_ble_eq_true rfl) (Nat.le_of_ble_eq_true rfl)) (by decide) rfl rfl rfl hl.1 rfl (Nat.le_of_ble_eq_true rfl) d_lw_law_340 ⟨hcl.1, hcl.2⟩) ?_
  rw [w6, ← hans]
  refine lv_iload hC.1 hC.2.1 d_lw_law_343 (lv_at hl 1 rfl) ?_
  refine ir_eq (tgt := 350) hC.1 hC.2.1 d_lw_law_345 (by decide) ⟨by omega, by omega⟩ ⟨by omega, by omega⟩ (fun _ => ?_) (fun z => absurd rfl z)
  refine lv_iload hC.1 hC.2.1 d_lw_law_350 (lv_at hl 1 rfl) ?_
  refine ir_if_ne (tgt := 367) hC.1 hC.2.1 d_lw_law_352 (by decide) ⟨by omega, by omega⟩ (fun hne => ?_) (fun he => ?_)
  · refine lv_goto (tgt := 1017) hC.1 hC.2.1 d_lw_law_367 (by decide) ?_
    exact kk Sm1 H locs ls w5 hw (lv_sub hl [2, 3, 4, 5, 6] rfl)
  · skip
    obtain ⟨w8, w9⟩ := w7 (by omega)
    refine lv_aload_n hC.1 hC.2.1 d_lw_law_355 rfl (lv_at hl 5 rfl) ?_
    refine lv_iconst (v := iI 0) hC.1 hC.2.1 d_lw_law_356 rfl ?_
    refine ld_44 hC hw d_lw_law_357 ?_
    refine lv_iload hC.1 hC.2.1 d_lw_law_358 (lv_at hl 0 rfl) ?_
    refine lv_i2l (v := lI (iI rm).toInt) hC.1 hC.2.1 d_lw_law_360 (lI_i _) ?_
    refine lc_eq (by rw [w9, w8]) hC d_lw_law_361 ?_
    refine ir_if_eq (tgt := 367) hC.1 hC.2.1 d_lw_law_362 (by decide) (by decide) (fun _ => ?_) (fun z => absurd rfl z)
    refine lv_goto (tgt := 1017) hC.1 hC.2.1 d_lw_law_367 (by decide) ?_
    exact kk Sm1 H locs ls w5 hw (lv_sub hl [2, 3, 4, 5, 6] rfl)
set_option maxHeartbeats 4000000 in
set_option maxRecDepth 100000 in
theorem lc_route {p : Program} {l : Launch} {e : Env} {s : State} {m : MethodId} {below : List Frame} {meth : Method} {c : Code} {H : Heap} {locs : List Loc} {cells slots b L : Nat} {Q : State → Prop} {xs : Nat → Int32} {ls : Array Slot} {G : Gt} {S : St} {j : Nat} (hK : LwC p l s m c b L xs G) (hR : Rel S) (hj : 5 * j + 5 ≤ L) (hw : wh G S s H locs) (hl : lv_has ls 7 [(0, Value.ref b), (1, Value.ref (G.2.1 0)), (2, Value.ref (G.2.1 25)), (3, Value.ref (G.2.1 44)), (4, Value.int (iI (5 * (j : Int))))]) (hcl : cells + 1 ≤ 1083 ∧ slots + 6 ≤ 10652)
    (kk : ∀ (S' : St) (H : Heap) (locs : List Loc) (ls : Array Slot), Rel S' → wh G S' s H locs → lv_has ls 7 [(0, Value.ref b), (1, Value.ref (G.2.1 0)), (2, Value.ref (G.2.1 25)), (3, Value.ref (G.2.1 44)), (4, Value.int (iI (5 * (j : Int))))] → W p l e room_1 s m #[Value.ref b] below meth c H locs (cells + 1) (slots + 6) Q (F0 m 1017 ls [])) : W p l e room_1 s m #[Value.ref b] below meth c H locs cells slots Q (F0 m 370 ls []) := by
  have hC := hK.1
  have hl0 := hK.2.2.2.2.2.2.2.1
  have hLb := hK.2.2.2.2.2.2.2.2
  refine lv_aload_n hC.1 hC.2.1 d_lw_law_370 rfl (lv_at hl 1 rfl) ?_
  refine lv_aload_n hC.1 hC.2.1 d_lw_law_371 rfl (lv_at hl 0 rfl) ?_
  refine lv_iload hC.1 hC.2.1 d_lw_law_372 (lv_at hl 4 rfl) ?_
  refine lv_iconst (v := iI 1) hC.1 hC.2.1 d_lw_law_374 rfl ?_
  refine ir_add hC.1 hC.2.1 d_lw_law_375 ?_
  refine sl_ld hK hw (z := 5 * (j : Int) + 1) (by omega) (by omega) d_lw_law_376 ?_
  refine lv_aload_n hC.1 hC.2.1 d_lw_law_377 rfl (lv_at hl 0 rfl) ?_
  refine lv_iload hC.1 hC.2.1 d_lw_law_378 (lv_at hl 4 rfl) ?_
  refine lv_iconst (v := iI 2) hC.1 hC.2.1 d_lw_law_380 rfl ?_
  refine ir_add hC.1 hC.2.1 d_lw_law_381 ?_
  refine sl_ld hK hw (z := 5 * (j : Int) + 2) (by omega) (by omega) d_lw_law_382 ?_
  refine lv_aload_n hC.1 hC.2.1 d_lw_law_383 rfl (lv_at hl 0 rfl) ?_
  refine lv_iload hC.1 hC.2.1 d_lw_law_384 (lv_at hl 4 rfl) ?_
  refine lv_iconst (v := iI 3) hC.1 hC.2.1 d_lw_law_386 rfl ?_
  refine ir_add hC.1 hC.2.1 d_lw_law_387 ?_
  refine sl_ld hK hw (z := 5 * (j : Int) + 3) (by omega) (by omega) d_lw_law_388 ?_
  refine lv_aload_n hC.1 hC.2.1 d_lw_law_389 rfl (lv_at hl 0 rfl) ?_
  refine lv_iload hC.1 hC.2.1 d_lw_law_390 (lv_at hl 4 rfl) ?_
  refine lv_iconst (v := iI 4) hC.1 hC.2.1 d_lw_law_392 rfl ?_
  refine ir_add hC.1 hC.2.1 d_lw_law_393 ?_
  refine sl_ld hK hw (z := 5 * (j : Int) + 4) (by omega) (by omega) d_lw_law_394 ?_
  refine lv_aload_n hC.1 hC.2.1 d_lw_law_395 rfl (lv_at hl 3 rfl) ?_
  refine go_H (run_H (As := [Value.ref (G.2.1 0), Value.int (iI (xs (5 * (j : Int) + 1).toNat).toInt), Value.int (iI (xs (5 * (j : Int) + 2).toNat).toInt), Value.int (iI (xs (5 * (j : Int) + 3).toNat).toInt), Value.int (iI (xs (5 * (j : Int) + 4).toNat).toInt), Value.ref (G.2.1 44)]) (rest := []) hK hw (c_lw_route l hl0 G S (xs (5 * (j : Int) + 1).toNat).toInt (xs (5 * (j : Int) + 2).toNat).toInt (xs (5 * (j : Int) + 3).toNat).toInt (xs (5 * (j : Int) + 4).toNat).toInt hR.1 hR.2.2.2.2.1.2.1 (iI_b _) (iI_b _) (iI_b _) (iI_b _)) tw_361 tw_0 tw_6 tw_360 tw_359 rfl rfl (Nat.le_of_ble_eq_true rfl) (Nat.le_of_ble_eq_true rfl) (n := 6) (by decide +kernel) rfl hl.1 rfl (Nat.le_of_ble_eq_true rfl) d_lw_law_396 hcl) hw (fun H locs hw => ?_)
  obtain ⟨Sh, hSh⟩ : ∃ Z : St, Z = if kRo S (xs (5 * (j : Int) + 1).toNat).toInt (xs (5 * (j : Int) + 2).toNat).toInt (xs (5 * (j : Int) + 3).toNat).toInt (xs (5 * (j : Int) + 4).toNat).toInt = 0 then s_up (if kRo S (xs (5 * (j : Int) + 1).toNat).toInt (xs (5 * (j : Int) + 2).toNat).toInt (xs (5 * (j : Int) + 3).toNat).toInt (xs (5 * (j : Int) + 4).toNat).toInt = 0 then (pRt S (xs (5 * (j : Int) + 1).toNat).toInt (xs (5 * (j : Int) + 2).toNat).toInt (xs (5 * (j : Int) + 3).toNat).toInt).1 else S) 44 0 (iI (rou S (xs (5 * (j : Int) + 1).toNat).toInt (xs (5 * (j : Int) + 2).toNat).toInt (xs (5 * (j : Int) + 3).toNat).toInt (xs (5 * (j : Int) + 4).toNat).toInt)).toInt else if kRo S (xs (5 * (j : Int) + 1).toNat).toInt (xs (5 * (j : Int) + 2).toNat).toInt (xs (5 * (j : Int) + 3).toNat).toInt (xs (5 * (j : Int) + 4).toNat).toInt = 0 then (pRt S (xs (5 * (j : Int) + 1).toNat).toInt (xs (5 * (j : Int) + 2).toNat).toInt (xs (5 * (j : Int) + 3).toNat).toInt).1 else S := ⟨_, rfl⟩
  rw [← hSh] at hw
  obtain ⟨w1, w2, w3, w4, w5, w6, w7⟩ := w_route hR hSh
  have kr := kRo_r S (xs (5 * (j : Int) + 1).toNat).toInt (xs (5 * (j : Int) + 2).toNat).toInt (xs (5 * (j : Int) + 3).toNat).toInt (xs (5 * (j : Int) + 4).toNat).toInt
  obtain ⟨ans, hans⟩ : ∃ z : Int, z = kRo S (xs (5 * (j : Int) + 1).toNat).toInt (xs (5 * (j : Int) + 2).toNat).toInt (xs (5 * (j : Int) + 3).toNat).toInt (xs (5 * (j : Int) + 4).toNat).toInt := ⟨_, rfl⟩
  rw [← hans]
  refine lv_istore (lv' := [(5, Value.int (iI (ans))), (0, Value.ref b), (1, Value.ref (G.2.1 0)), (2, Value.ref (G.2.1 25)), (3, Value.ref (G.2.1 44)), (4, Value.int (iI (5 * (j : Int))))]) hC.1 hC.2.1 d_lw_law_399 hl (by decide) rfl (fun ls hl => ?_)
  refine lv_aload_n hC.1 hC.2.1 d_lw_law_401 rfl (lv_at hl 3 rfl) ?_
  refine lv_aload_n hC.1 hC.2.1 d_lw_law_402 rfl (lv_at hl 1 rfl) ?_
  refine lv_iload hC.1 hC.2.1 d_lw_law_403 (lv_at hl 5 rfl) ?_
  refine lv_iconst (v := iI 1) hC.1 hC.2.1 d_lw_law_405 rfl ?_
  refine ir_add hC.1 hC.2.1 d_lw_law_406 ?_
  refine sl_ld hK hw (z := 5 * (j : Int) + 1) (by omega) (by omega) d_lw_law_407 ?_
  refine lv_aload_n hC.1 hC.2.1 d_lw_law_408 rfl (lv_at hl 1 rfl) ?_
  refine lv_iload hC.1 hC.2.1 d_lw_law_409 (lv_at hl 5 rfl) ?_
  refine lv_iconst (v := iI 2) hC.1 hC.2.1 d_lw_law_411 rfl ?_
  refine ir_add hC.1 hC.2.1 d_lw_law_412 ?_
  refine sl_ld hK hw (z := 5 * (j : Int) + 2) (by omega) (by omega) d_lw_law_413 ?_
  refine lv_aload_n hC.1 hC.2.1 d_lw_law_414 rfl (lv_at hl 1 rfl) ?_
  refine lv_iload hC.1 hC.2.1 d_lw_law_415 (lv_at hl 5 rfl) ?_
  refine lv_iconst (v := iI 3) hC.1 hC.2.1 d_lw_law_417 rfl ?_
  refine ir_add hC.1 hC.2.1 d_lw_law_418 ?_
  refine sl_ld hK hw (z := 5 * (j : Int) + 3) (by omega) (by omega) d_lw_law_419 ?_
  refine lv_aload_n hC.1 hC.2.1 d_lw_law_420 rfl (lv_at hl 1 rfl) ?_
  refine lv_iload hC.1 hC.2.1 d_lw_law_421 (lv_at hl 5 rfl) ?_
  refine lv_iconst (v := iI 4) hC.1 hC.2.1 d_lw_law_423 rfl ?_
  refine ir_add hC.1 hC.2.1 d_lw_law_424 ?_
  refine sl_ld hK hw (z := 5 * (j : Int) + 4) (by omega) (by omega) d_lw_law_425 ?_
  refine go_W (ca_V (As := [Value.int (iI (xs (5 * (j : Int) + 1).toNat).toInt), Value.int (iI (xs (5 * (j : Int) + 2).toNat).toInt), Value.int (iI (xs (5 * (j : Int) + 3).toNat).toInt), Value.int (iI (xs (5 * (j : Int) + 4).toNat).toInt)]) (rest := []) hC hw (c_md_route l G Sh (xs (5 * (j : Int) + 1).toNat).toInt (xs (5 * (j : Int) + 2).toNat).toInt (xs (5 * (j : Int) + 3).toNat).toInt (xs (5 * (j : Int) + 4).toNat).toInt w1 (iI_b _) (iI_b _) (iI_b _) (iI_b _) w2 w3) (cv_lw_75 hC rfl rfl (Nat.le_of_ble_eq_true rfl) (Nat.le_of_ble_eq_true rfl)) (by decide) rfl rfl rfl hl.1 rfl (Nat.le_of_ble_eq_true rfl) d_lw_law_426 ⟨hcl.1, hcl.2⟩) hw (fun H locs hw => ?_)
  obtain ⟨Sm1, hSm⟩ : ∃ Z : St, Z = if kmR Sh (xs (5 * (j : Int) + 1).toNat).toInt (xs (5 * (j : Int) + 2).toNat).toInt (xs (5 * (j : Int) + 3).toNat).toInt (xs (5 * (j : Int) + 4).toNat).toInt = 0 then (mLy (s_up Sh 25 0 0) (xs (5 * (j : Int) + 1).toNat).toInt (xs (5 * (j : Int) + 2).toNat).toInt (xs (5 * (j : Int) + 3).toNat).toInt).1 else s_up Sh 25 0 (kmR Sh (xs (5 * (j : Int) + 1).toNat).toInt (xs (5 * (j : Int) + 2).toNat).toInt (xs (5 * (j : Int) + 3).toNat).toInt (xs (5 * (j : Int) + 4).toNat).toInt) := ⟨_, rfl⟩
  rw [← hSm] at hw w5 w6 w7
  obtain ⟨rm, hrm⟩ : ∃ z : Int, z = if kmR Sh (xs (5 * (j : Int) + 1).toNat).toInt (xs (5 * (j : Int) + 2).toNat).toInt (xs (5 * (j : Int) + 3).toNat).toInt (xs (5 * (j : Int) + 4).toNat).toInt = 0 then mRo (s_up Sh 25 0 0) (xs (5 * (j : Int) + 1).toNat).toInt (xs (5 * (j : Int) + 2).toNat).toInt (xs (5 * (j : Int) + 3).toNat).toInt (xs (5 * (j : Int) + 4).toNat).toInt else 0 := ⟨_, rfl⟩
  rw [← hrm] at w7 ⊢
  refine lv_istore (lv' := [(6, Value.int (iI (rm))), (5, Value.int (iI (ans))), (0, Value.ref b), (1, Value.ref (G.2.1 0)), (2, Value.ref (G.2.1 25)), (3, Value.ref (G.2.1 44)), (4, Value.int (iI (5 * (j : Int))))]) hC.1 hC.2.1 d_lw_law_429 hl (by decide) rfl (fun ls hl => ?_)
  refine lv_aload_n hC.1 hC.2.1 d_lw_law_431 rfl (lv_at hl 4 rfl) ?_
  refine go_R (ca_V (As := []) (rest := []) hC hw (c_md_thrown l G Sm1) (cv_lw_55 hC rfl rfl (Nat.le_of_ble_eq_true rfl) (Nat.le_of_ble_eq_true rfl)) (by decide) rfl rfl rfl hl.1 rfl (Nat.le_of_ble_eq_true rfl) d_lw_law_432 ⟨hcl.1, hcl.2⟩) ?_
  rw [w6, ← hans]
  refine lv_iload hC.1 hC.2.1 d_lw_law_435 (lv_at hl 1 rfl) ?_
  refine ir_eq (tgt := 442) hC.1 hC.2.1 d_lw_law_437 (by decide) ⟨by omega, by omega⟩ ⟨by omega, by omega⟩ (fun _ => ?_) (fun z => absurd rfl z)
  refine lv_iload hC.1 hC.2.1 d_lw_law_442 (lv_at hl 1 rfl) ?_
  refine ir_if_ne (tgt := 459) hC.1 hC.2.1 d_lw_law_444 (by decide) ⟨by omega, by omega⟩ (fun hne => ?_) (fun he => ?_)
  · refine lv_goto (tgt := 1017) hC.1 hC.2.1 d_lw_law_459 (by decide) ?_
    exact kk Sm1 H locs ls w5 hw (lv_sub hl [2, 3, 4, 5, 6] rfl)
  · skip
    obtain ⟨w8, w9⟩ := w7 (by omega)
    refine lv_aload_n hC.1 hC.2.1 d_lw_law_447 rfl (lv_at hl 5 rfl) ?_
    refine lv_iconst (v := iI 0) hC.1 hC.2.1 d_lw_law_448 rfl ?_
    refine ld_44 hC hw d_lw_law_449 ?_
    refine lv_iload hC.1 hC.2.1 d_lw_law_450 (lv_at hl 0 rfl) ?_
    refine lv_i2l (v := lI (iI rm).toInt) hC.1 hC.2.1 d_lw_law_452 (lI_i _) ?_
    refine lc_eq (by rw [w9, w8]) hC d_lw_law_453 ?_
    refine ir_if_eq (tgt := 459) hC.1 hC.2.1 d_lw_law_454 (by decide) (by decide) (fun _ => ?_) (fun z => absurd rfl z)
    refine lv_goto (tgt := 1017) hC.1 hC.2.1 d_lw_law_459 (by decide) ?_
    exact kk Sm1 H locs ls w5 hw (lv_sub hl [2, 3, 4, 5, 6] rfl)
set_option maxHeartbeats 4000000 in
set_option maxRecDepth 100000 in
theorem lc_ask {p : Program} {l : Launch} {e : Env} {s : State} {m : MethodId} {below : List Frame} {meth : Method} {c : Code} {H : Heap} {locs : List Loc} {cells slots b L : Nat} {Q : State → Prop} {xs : Nat → Int32} {ls : Array Slot} {G : Gt} {S : St} {j : Nat} (hK : LwC p l s m c b L xs G) (hR : Rel S) (hj : 5 * j + 5 ≤ L) (hw : wh G S s H locs) (hl : lv_has ls 7 [(0, Value.ref b), (1, Value.ref (G.2.1 0)), (2, Value.ref (G.2.1 25)), (3, Value.ref (G.2.1 44)), (4, Value.int (iI (5 * (j : Int))))]) (hcl : cells + 1 ≤ 1083 ∧ slots + 6 ≤ 10652)
    (kk : ∀ (S' : St) (H : Heap) (locs : List Loc) (ls : Array Slot), Rel S' → wh G S' s H locs → lv_has ls 7 [(0, Value.ref b), (1, Value.ref (G.2.1 0)), (2, Value.ref (G.2.1 25)), (3, Value.ref (G.2.1 44)), (4, Value.int (iI (5 * (j : Int))))] → W p l e room_1 s m #[Value.ref b] below meth c H locs (cells + 1) (slots + 6) Q (F0 m 1017 ls [])) : W p l e room_1 s m #[Value.ref b] below meth c H locs cells slots Q (F0 m 462 ls []) := by
  have hC := hK.1
  have hl0 := hK.2.2.2.2.2.2.2.1
  have hLb := hK.2.2.2.2.2.2.2.2
  refine lv_aload_n hC.1 hC.2.1 d_lw_law_462 rfl (lv_at hl 1 rfl) ?_
  refine lv_aload_n hC.1 hC.2.1 d_lw_law_463 rfl (lv_at hl 0 rfl) ?_
  refine lv_iload hC.1 hC.2.1 d_lw_law_464 (lv_at hl 4 rfl) ?_
  refine lv_iconst (v := iI 1) hC.1 hC.2.1 d_lw_law_466 rfl ?_
  refine ir_add hC.1 hC.2.1 d_lw_law_467 ?_
  refine sl_ld hK hw (z := 5 * (j : Int) + 1) (by omega) (by omega) d_lw_law_468 ?_
  refine lv_aload_n hC.1 hC.2.1 d_lw_law_469 rfl (lv_at hl 0 rfl) ?_
  refine lv_iload hC.1 hC.2.1 d_lw_law_470 (lv_at hl 4 rfl) ?_
  refine lv_iconst (v := iI 2) hC.1 hC.2.1 d_lw_law_472 rfl ?_
  refine ir_add hC.1 hC.2.1 d_lw_law_473 ?_
  refine sl_ld hK hw (z := 5 * (j : Int) + 2) (by omega) (by omega) d_lw_law_474 ?_
  refine lv_aload_n hC.1 hC.2.1 d_lw_law_475 rfl (lv_at hl 0 rfl) ?_
  refine lv_iload hC.1 hC.2.1 d_lw_law_476 (lv_at hl 4 rfl) ?_
  refine lv_iconst (v := iI 3) hC.1 hC.2.1 d_lw_law_478 rfl ?_
  refine ir_add hC.1 hC.2.1 d_lw_law_479 ?_
  refine sl_ld hK hw (z := 5 * (j : Int) + 3) (by omega) (by omega) d_lw_law_480 ?_
  refine lv_aload_n hC.1 hC.2.1 d_lw_law_481 rfl (lv_at hl 0 rfl) ?_
  refine lv_iload hC.1 hC.2.1 d_lw_law_482 (lv_at hl 4 rfl) ?_
  refine lv_iconst (v := iI 4) hC.1 hC.2.1 d_lw_law_484 rfl ?_
  refine ir_add hC.1 hC.2.1 d_lw_law_485 ?_
  refine sl_ld hK hw (z := 5 * (j : Int) + 4) (by omega) (by omega) d_lw_law_486 ?_
  refine lv_aload_n hC.1 hC.2.1 d_lw_law_487 rfl (lv_at hl 3 rfl) ?_
  refine go_H (run_H (As := [Value.ref (G.2.1 0), Value.int (iI (xs (5 * (j : Int) + 1).toNat).toInt), Value.int (iI (xs (5 * (j : Int) + 2).toNat).toInt), Value.int (iI (xs (5 * (j : Int) + 3).toNat).toInt), Value.int (iI (xs (5 * (j : Int) + 4).toNat).toInt), Value.ref (G.2.1 44)]) (rest := []) hK hw (c_lw_ask l hl0 G S (xs (5 * (j : Int) + 1).toNat).toInt (xs (5 * (j : Int) + 2).toNat).toInt (xs (5 * (j : Int) + 3).toNat).toInt (xs (5 * (j : Int) + 4).toNat).toInt hR.1 hR.2.2.2.2.1.2.1 (iI_b _) (iI_b _) (iI_b _) (iI_b _)) tw_418 tw_0 tw_6 tw_417 tw_416 rfl rfl (Nat.le_of_ble_eq_true rfl) (Nat.le_of_ble_eq_true rfl) (n := 6) (by decide +kernel) rfl hl.1 rfl (Nat.le_of_ble_eq_true rfl) d_lw_law_488 hcl) hw (fun H locs hw => ?_)
  obtain ⟨Sh, hSh⟩ : ∃ Z : St, Z = if kAs S (xs (5 * (j : Int) + 1).toNat).toInt (xs (5 * (j : Int) + 2).toNat).toInt (xs (5 * (j : Int) + 3).toNat).toInt (xs (5 * (j : Int) + 4).toNat).toInt = 0 then s_up (if kAs S (xs (5 * (j : Int) + 1).toNat).toInt (xs (5 * (j : Int) + 2).toNat).toInt (xs (5 * (j : Int) + 3).toNat).toInt (xs (5 * (j : Int) + 4).toNat).toInt = 0 then askS S (xs (5 * (j : Int) + 1).toNat).toInt (xs (5 * (j : Int) + 2).toNat).toInt (xs (5 * (j : Int) + 3).toNat).toInt (xs (5 * (j : Int) + 4).toNat).toInt else S) 44 0 (iI (askR S (xs (5 * (j : Int) + 1).toNat).toInt (xs (5 * (j : Int) + 2).toNat).toInt (xs (5 * (j : Int) + 3).toNat).toInt (xs (5 * (j : Int) + 4).toNat).toInt)).toInt else if kAs S (xs (5 * (j : Int) + 1).toNat).toInt (xs (5 * (j : Int) + 2).toNat).toInt (xs (5 * (j : Int) + 3).toNat).toInt (xs (5 * (j : Int) + 4).toNat).toInt = 0 then askS S (xs (5 * (j : Int) + 1).toNat).toInt (xs (5 * (j : Int) + 2).toNat).toInt (xs (5 * (j : Int) + 3).toNat).toInt (xs (5 * (j : Int) + 4).toNat).toInt else S := ⟨_, rfl⟩
  rw [← hSh] at hw
  obtain ⟨w1, w2, w3, w4, w5, w6, w7⟩ := w_ask hR hSh
  have kr := kAs_r S (xs (5 * (j : Int) + 1).toNat).toInt (xs (5 * (j : Int) + 2).toNat).toInt (xs (5 * (j : Int) + 3).toNat).toInt (xs (5 * (j : Int) + 4).toNat).toInt
  obtain ⟨ans, hans⟩ : ∃ z : Int, z = kAs S (xs (5 * (j : Int) + 1).toNat).toInt (xs (5 * (j : Int) + 2).toNat).toInt (xs (5 * (j : Int) + 3).toNat).toInt (xs (5 * (j : Int) + 4).toNat).toInt := ⟨_, rfl⟩
  rw [← hans]
  refine lv_istore (lv' := [(5, Value.int (iI (ans))), (0, Value.ref b), (1, Value.ref (G.2.1 0)), (2, Value.ref (G.2.1 25)), (3, Value.ref (G.2.1 44)), (4, Value.int (iI (5 * (j : Int))))]) hC.1 hC.2.1 d_lw_law_491 hl (by decide) rfl (fun ls hl => ?_)
  refine lv_aload_n hC.1 hC.2.1 d_lw_law_493 rfl (lv_at hl 3 rfl) ?_
  refine lv_aload_n hC.1 hC.2.1 d_lw_law_494 rfl (lv_at hl 1 rfl) ?_
  refine lv_iload hC.1 hC.2.1 d_lw_law_495 (lv_at hl 5 rfl) ?_
  refine lv_iconst (v := iI 1) hC.1 hC.2.1 d_lw_law_497 rfl ?_
  refine ir_add hC.1 hC.2.1 d_lw_law_498 ?_
  refine sl_ld hK hw (z := 5 * (j : Int) + 1) (by omega) (by omega) d_lw_law_499 ?_
  refine lv_aload_n hC.1 hC.2.1 d_lw_law_500 rfl (lv_at hl 1 rfl) ?_
  refine lv_iload hC.1 hC.2.1 d_lw_law_501 (lv_at hl 5 rfl) ?_
  refine lv_iconst (v := iI 2) hC.1 hC.2.1 d_lw_law_503 rfl ?_
  refine ir_add hC.1 hC.2.1 d_lw_law_504 ?_
  refine sl_ld hK hw (z := 5 * (j : Int) + 2) (by omega) (by omega) d_lw_law_505 ?_
  refine lv_aload_n hC.1 hC.2.1 d_lw_law_506 rfl (lv_at hl 1 rfl) ?_
  refine lv_iload hC.1 hC.2.1 d_lw_law_507 (lv_at hl 5 rfl) ?_
  refine lv_iconst (v := iI 3) hC.1 hC.2.1 d_lw_law_509 rfl ?_
  refine ir_add hC.1 hC.2.1 d_lw_law_510 ?_
  refine sl_ld hK hw (z := 5 * (j : Int) + 3) (by omega) (by omega) d_lw_law_511 ?_
  refine lv_aload_n hC.1 hC.2.1 d_lw_law_512 rfl (lv_at hl 1 rfl) ?_
  refine lv_iload hC.1 hC.2.1 d_lw_law_513 (lv_at hl 5 rfl) ?_
  refine lv_iconst (v := iI 4) hC.1 hC.2.1 d_lw_law_515 rfl ?_
  refine ir_add hC.1 hC.2.1 d_lw_law_516 ?_
  refine sl_ld hK hw (z := 5 * (j : Int) + 4) (by omega) (by omega) d_lw_law_517 ?_
  refine go_W (ca_V (As := [Value.int (iI (xs (5 * (j : Int) + 1).toNat).toInt), Value.int (iI (xs (5 * (j : Int) + 2).toNat).toInt), Value.int (iI (xs (5 * (j : Int) + 3).toNat).toInt), Value.int (iI (xs (5 * (j : Int) + 4).toNat).toInt)]) (rest := []) hC hw (c_md_ask l G Sh (xs (5 * (j : Int) + 1).toNat).toInt (xs (5 * (j : Int) + 2).toNat).toInt (xs (5 * (j : Int) + 3).toNat).toInt (xs (5 * (j : Int) + 4).toNat).toInt w1 (iI_b _) (iI_b _) (iI_b _) (iI_b _) w2 w3 w4) (cv_lw_78 hC rfl rfl (Nat.le_of_ble_eq_true rfl) (Nat.le_of_ble_eq_true rfl)) (by decide) rfl rfl rfl hl.1 rfl (Nat.le_of_ble_eq_true rfl) d_lw_law_518 ⟨hcl.1, hcl.2⟩) hw (fun H locs hw => ?_)
  obtain ⟨Sm1, hSm⟩ : ∃ Z : St, Z = if kmA Sh (xs (5 * (j : Int) + 1).toNat).toInt (xs (5 * (j : Int) + 2).toNat).toInt (xs (5 * (j : Int) + 3).toNat).toInt (xs (5 * (j : Int) + 4).toNat).toInt = 0 then mAkS (s_up Sh 25 0 0) (xs (5 * (j : Int) + 1).toNat).toInt (xs (5 * (j : Int) + 2).toNat).toInt (xs (5 * (j : Int) + 3).toNat).toInt (xs (5 * (j : Int) + 4).toNat).toInt else s_up Sh 25 0 (kmA Sh (xs (5 * (j : Int) + 1).toNat).toInt (xs (5 * (j : Int) + 2).toNat).toInt (xs (5 * (j : Int) + 3).toNat).toInt (xs (5 * (j : Int) + 4).toNat).toInt) := ⟨_, rfl⟩
  rw [← hSm] at hw w5 w6 w7
  obtain ⟨rm, hrm⟩ : ∃ z : Int, z = if kmA Sh (xs (5 * (j : Int) + 1).toNat).toInt (xs (5 * (j : Int) + 2).toNat).toInt (xs (5 * (j : Int) + 3).toNat).toInt (xs (5 * (j : Int) + 4).toNat).toInt = 0 then mAkR (s_up Sh 25 0 0) (xs (5 * (j : Int) + 1).toNat).toInt (xs (5 * (j : Int) + 2).toNat).toInt (xs (5 * (j : Int) + 3).toNat).toInt (xs (5 * (j : Int) + 4).toNat).toInt else 0 := ⟨_, rfl⟩
  rw [← hrm] at w7 ⊢
  refine lv_istore (lv' := [(6, Value.int (iI (rm))), (5, Value.int (iI (ans))), (0, Value.ref b), (1, Value.ref (G.2.1 0)), (2, Value.ref (G.2.1 25)), (3, Value.ref (G.2.1 44)), (4, Value.int (iI (5 * (j : Int))))]) hC.1 hC.2.1 d_lw_law_521 hl (by decide) rfl (fun ls hl => ?_)
  refine lv_aload_n hC.1 hC.2.1 d_lw_law_523 rfl (lv_at hl 4 rfl) ?_
  refine go_R (ca_V (As := []) (rest := []) hC hw (c_md_thrown l G Sm1) (cv_lw_55 hC rfl rfl (Nat.le_of_ble_eq_true rfl) (Nat.le_of_ble_eq_true rfl)) (by decide) rfl rfl rfl hl.1 rfl (Nat.le_of_ble_eq_true rfl) d_lw_law_524 ⟨hcl.1, hcl.2⟩) ?_
  rw [w6, ← hans]
  refine lv_iload hC.1 hC.2.1 d_lw_law_527 (lv_at hl 1 rfl) ?_
  refine ir_eq (tgt := 534) hC.1 hC.2.1 d_lw_law_529 (by decide) ⟨by omega, by omega⟩ ⟨by omega, by omega⟩ (fun _ => ?_) (fun z => absurd rfl z)
  refine lv_iload hC.1 hC.2.1 d_lw_law_534 (lv_at hl 1 rfl) ?_
  refine ir_if_ne (tgt := 551) hC.1 hC.2.1 d_lw_law_536 (by decide) ⟨by omega, by omega⟩ (fun hne => ?_) (fun he => ?_)
  · refine lv_goto (tgt := 1017) hC.1 hC.2.1 d_lw_law_551 (by decide) ?_
    exact kk Sm1 H locs ls w5 hw (lv_sub hl [2, 3, 4, 5, 6] rfl)
  · skip
    obtain ⟨w8, w9⟩ := w7 (by omega)
    refine lv_aload_n hC.1 hC.2.1 d_lw_law_539 rfl (lv_at hl 5 rfl) ?_
    refine lv_iconst (v := iI 0) hC.1 hC.2.1 d_lw_law_540 rfl ?_
    refine ld_44 hC hw d_lw_law_541 ?_
    refine lv_iload hC.1 hC.2.1 d_lw_law_542 (lv_at hl 0 rfl) ?_
    refine lv_i2l (v := lI (iI rm).toInt) hC.1 hC.2.1 d_lw_law_544 (lI_i _) ?_
    refine lc_eq (by rw [w9, w8]) hC d_lw_law_545 ?_
    refine ir_if_eq (tgt := 551) hC.1 hC.2.1 d_lw_law_546 (by decide) (by decide) (fun _ => ?_) (fun z => absurd rfl z)
    refine lv_goto (tgt := 1017) hC.1 hC.2.1 d_lw_law_551 (by decide) ?_
    exact kk Sm1 H locs ls w5 hw (lv_sub hl [2, 3, 4, 5, 6] rfl)
set_option maxHeartbeats 4000000 in
set_option maxRecDepth 100000 in
theorem lc_earliest {p : Program} {l : Launch} {e : Env} {s : State} {m : MethodId} {below : List Frame} {meth : Method} {c : Code} {H : Heap} {locs : List Loc} {cells slots b L : Nat} {Q : State → Prop} {xs : Nat → Int32} {ls : Array Slot} {G : Gt} {S : St} {j : Nat} (hK : LwC p l s m c b L xs G) (hR : Rel S) (hj : 5 * j + 5 ≤ L) (hw : wh G S s H locs) (hl : lv_has ls 7 [(0, Value.ref b), (1, Value.ref (G.2.1 0)), (2, Value.ref (G.2.1 25)), (3, Value.ref (G.2.1 44)), (4, Value.int (iI (5 * (j : Int))))]) (hcl : cells + 1 ≤ 1083 ∧ slots + 6 ≤ 10652)
    (kk : ∀ (S' : St) (H : Heap) (locs : List Loc) (ls : Array Slot), Rel S' → wh G S' s H locs → lv_has ls 7 [(0, Value.ref b), (1, Value.ref (G.2.1 0)), (2, Value.ref (G.2.1 25)), (3, Value.ref (G.2.1 44)), (4, Value.int (iI (5 * (j : Int))))] → W p l e room_1 s m #[Value.ref b] below meth c H locs (cells + 1) (slots + 6) Q (F0 m 1017 ls [])) : W p l e room_1 s m #[Value.ref b] below meth c H locs cells slots Q (F0 m 554 ls []) := by
  have hC := hK.1
  have hl0 := hK.2.2.2.2.2.2.2.1
  have hLb := hK.2.2.2.2.2.2.2.2
  refine lv_aload_n hC.1 hC.2.1 d_lw_law_554 rfl (lv_at hl 1 rfl) ?_
  refine lv_aload_n hC.1 hC.2.1 d_lw_law_555 rfl (lv_at hl 0 rfl) ?_
  refine lv_iload hC.1 hC.2.1 d_lw_law_556 (lv_at hl 4 rfl) ?_
  refine lv_iconst (v := iI 1) hC.1 hC.2.1 d_lw_law_558 rfl ?_
  refine ir_add hC.1 hC.2.1 d_lw_law_559 ?_
  refine sl_ld hK hw (z := 5 * (j : Int) + 1) (by omega) (by omega) d_lw_law_560 ?_
  refine lv_aload_n hC.1 hC.2.1 d_lw_law_561 rfl (lv_at hl 0 rfl) ?_
  refine lv_iload hC.1 hC.2.1 d_lw_law_562 (lv_at hl 4 rfl) ?_
  refine lv_iconst (v := iI 2) hC.1 hC.2.1 d_lw_law_564 rfl ?_
  refine ir_add hC.1 hC.2.1 d_lw_law_565 ?_
  refine sl_ld hK hw (z := 5 * (j : Int) + 2) (by omega) (by omega) d_lw_law_566 ?_
  refine lv_aload_n hC.1 hC.2.1 d_lw_law_567 rfl (lv_at hl 0 rfl) ?_
  refine lv_iload hC.1 hC.2.1 d_lw_law_568 (lv_at hl 4 rfl) ?_
  refine lv_iconst (v := iI 3) hC.1 hC.2.1 d_lw_law_570 rfl ?_
  refine ir_add hC.1 hC.2.1 d_lw_law_571 ?_
  refine sl_ld hK hw (z := 5 * (j : Int) + 3) (by omega) (by omega) d_lw_law_572 ?_
  refine lv_aload_n hC.1 hC.2.1 d_lw_law_573 rfl (lv_at hl 0 rfl) ?_
  refine lv_iload hC.1 hC.2.1 d_lw_law_574 (lv_at hl 4 rfl) ?_
  refine lv_iconst (v := iI 4) hC.1 hC.2.1 d_lw_law_576 rfl ?_
  refine ir_add hC.1 hC.2.1 d_lw_law_577 ?_
  refine sl_ld hK hw (z := 5 * (j : Int) + 4) (by omega) (by omega) d_lw_law_578 ?_
  refine lv_aload_n hC.1 hC.2.1 d_lw_law_579 rfl (lv_at hl 3 rfl) ?_
  refine go_H (run_H (As := [Value.ref (G.2.1 0), Value.int (iI (xs (5 * (j : Int) + 1).toNat).toInt), Value.int (iI (xs (5 * (j : Int) + 2).toNat).toInt), Value.int (iI (xs (5 * (j : Int) + 3).toNat).toInt), Value.int (iI (xs (5 * (j : Int) + 4).toNat).toInt), Value.ref (G.2.1 44)]) (rest := []) hK hw (c_lw_earliest l hl0 G S (xs (5 * (j : Int) + 1).toNat).toInt (xs (5 * (j : Int) + 2).toNat).toInt (xs (5 * (j : Int) + 3).toNat).toInt (xs (5 * (j : Int) + 4).toNat).toInt hR.1 hR.2.2.2.2.1.2.1 (iI_b _) (iI_b _) (iI_b _) (iI_b _)) tw_465 tw_0 tw_6 tw_464 tw_463 rfl rfl (Nat.le_of_ble_eq_true rfl) (Nat.le_of_ble_eq_true rfl) (n := 6) (by decide +kernel) rfl hl.1 rfl (Nat.le_of_ble_eq_true rfl) d_lw_law_580 hcl) hw (fun H locs hw => ?_)
  obtain ⟨Sh, hSh⟩ : ∃ Z : St, Z = if kEa S (xs (5 * (j : Int) + 1).toNat).toInt (xs (5 * (j : Int) + 2).toNat).toInt (xs (5 * (j : Int) + 3).toNat).toInt (xs (5 * (j : Int) + 4).toNat).toInt = 0 then s_up (if kEa S (xs (5 * (j : Int) + 1).toNat).toInt (xs (5 * (j : Int) + 2).toNat).toInt (xs (5 * (j : Int) + 3).toNat).toInt (xs (5 * (j : Int) + 4).toNat).toInt = 0 then (eaP S (xs (5 * (j : Int) + 1).toNat).toInt (xs (5 * (j : Int) + 2).toNat).toInt (xs (5 * (j : Int) + 3).toNat).toInt (xs (5 * (j : Int) + 4).toNat).toInt).1 else S) 44 0 (iI ((eaP S (xs (5 * (j : Int) + 1).toNat).toInt (xs (5 * (j : Int) + 2).toNat).toInt (xs (5 * (j : Int) + 3).toNat).toInt (xs (5 * (j : Int) + 4).toNat).toInt).2)).toInt else if kEa S (xs (5 * (j : Int) + 1).toNat).toInt (xs (5 * (j : Int) + 2).toNat).toInt (xs (5 * (j : Int) + 3).toNat).toInt (xs (5 * (j : Int) + 4).toNat).toInt = 0 then (eaP S (xs (5 * (j : Int) + 1).toNat).toInt (xs (5 * (j : Int) + 2).toNat).toInt (xs (5 * (j : Int) + 3).toNat).toInt (xs (5 * (j : Int) + 4).toNat).toInt).1 else S := ⟨_, rfl⟩
  rw [← hSh] at hw
  obtain ⟨w1, w2, w3, w4, w5, w6, w7⟩ := w_earliest hR hSh
  have kr := kEa_r S (xs (5 * (j : Int) + 1).toNat).toInt (xs (5 * (j : Int) + 2).toNat).toInt (xs (5 * (j : Int) + 3).toNat).toInt (xs (5 * (j : Int) + 4).toNat).toInt
  obtain ⟨ans, hans⟩ : ∃ z : Int, z = kEa S (xs (5 * (j : Int) + 1).toNat).toInt (xs (5 * (j : Int) + 2).toNat).toInt (xs (5 * (j : Int) + 3).toNat).toInt (xs (5 * (j : Int) + 4).toNat).toInt := ⟨_, rfl⟩
  rw [← hans]
  refine lv_istore (lv' := [(5, Value.int (iI (ans))), (0, Value.ref b), (1, Value.ref (G.2.1 0)), (2, Value.ref (G.2.1 25)), (3, Value.ref (G.2.1 44)), (4, Value.int (iI (5 * (j : Int))))]) hC.1 hC.2.1 d_lw_law_583 hl (by decide) rfl (fun ls hl => ?_)
  refine lv_aload_n hC.1 hC.2.1 d_lw_law_585 rfl (lv_at hl 3 rfl) ?_
  refine lv_aload_n hC.1 hC.2.1 d_lw_law_586 rfl (lv_at hl 1 rfl) ?_
  refine lv_iload hC.1 hC.2.1 d_lw_law_587 (lv_at hl 5 rfl) ?_
  refine lv_iconst (v := iI 1) hC.1 hC.2.1 d_lw_law_589 rfl ?_
  refine ir_add hC.1 hC.2.1 d_lw_law_590 ?_
  refine sl_ld hK hw (z := 5 * (j : Int) + 1) (by omega) (by omega) d_lw_law_591 ?_
  refine lv_aload_n hC.1 hC.2.1 d_lw_law_592 rfl (lv_at hl 1 rfl) ?_
  refine lv_iload hC.1 hC.2.1 d_lw_law_593 (lv_at hl 5 rfl) ?_
  refine lv_iconst (v := iI 2) hC.1 hC.2.1 d_lw_law_595 rfl ?_
  refine ir_add hC.1 hC.2.1 d_lw_law_596 ?_
  refine sl_ld hK hw (z := 5 * (j : Int) + 2) (by omega) (by omega) d_lw_law_597 ?_
  refine lv_aload_n hC.1 hC.2.1 d_lw_law_598 rfl (lv_at hl 1 rfl) ?_
  refine lv_iload hC.1 hC.2.1 d_lw_law_599 (lv_at hl 5 rfl) ?_
  refine lv_iconst (v := iI 3) hC.1 hC.2.1 d_lw_law_601 rfl ?_
  refine ir_add hC.1 hC.2.1 d_lw_law_602 ?_
  refine sl_ld hK hw (z := 5 * (j : Int) + 3) (by omega) (by omega) d_lw_law_603 ?_
  refine lv_aload_n hC.1 hC.2.1 d_lw_law_604 rfl (lv_at hl 1 rfl) ?_
  refine lv_iload hC.1 hC.2.1 d_lw_law_605 (lv_at hl 5 rfl) ?_
  refine lv_iconst (v := iI 4) hC.1 hC.2.1 d_lw_law_607 rfl ?_
  refine ir_add hC.1 hC.2.1 d_lw_law_608 ?_
  refine sl_ld hK hw (z := 5 * (j : Int) + 4) (by omega) (by omega) d_lw_law_609 ?_
  refine go_W (ca_V (As := [Value.int (iI (xs (5 * (j : Int) + 1).toNat).toInt), Value.int (iI (xs (5 * (j : Int) + 2).toNat).toInt), Value.int (iI (xs (5 * (j : Int) + 3).toNat).toInt), Value.int (iI (xs (5 * (j : Int) + 4).toNat).toInt)]) (rest := []) hC hw (c_md_earliest l G Sh (xs (5 * (j : Int) + 1).toNat).toInt (xs (5 * (j : Int) + 2).toNat).toInt (xs (5 * (j : Int) + 3).toNat).toInt (xs (5 * (j : Int) + 4).toNat).toInt w1 (iI_b _) (iI_b _) (iI_b _) (iI_b _) w2 w3 w4) (cv_lw_81 hC rfl rfl (Nat.le_of_ble_eq_true rfl) (Nat.le_of_ble_eq_true rfl)) (by decide) rfl rfl rfl hl.1 rfl (Nat.le_of_ble_eq_true rfl) d_lw_law_610 ⟨hcl.1, hcl.2⟩) hw (fun H locs hw => ?_)
  obtain ⟨Sm1, hSm⟩ : ∃ Z : St, Z = if kmE Sh (xs (5 * (j : Int) + 1).toNat).toInt (xs (5 * (j : Int) + 2).toNat).toInt (xs (5 * (j : Int) + 3).toNat).toInt (xs (5 * (j : Int) + 4).toNat).toInt = 0 then (mEp (s_up Sh 25 0 0) (xs (5 * (j : Int) + 1).toNat).toInt (xs (5 * (j : Int) + 2).toNat).toInt (xs (5 * (j : Int) + 3).toNat).toInt (xs (5 * (j : Int) + 4).toNat).toInt).1 else s_up Sh 25 0 (kmE Sh (xs (5 * (j : Int) + 1).toNat).toInt (xs (5 * (j : Int) + 2).toNat).toInt (xs (5 * (j : Int) + 3).toNat).toInt (xs (5 * (j : Int) + 4).toNat).toInt) := ⟨_, rfl⟩
  rw [← hSm] at hw w5 w6 w7
  obtain ⟨rm, hrm⟩ : ∃ z : Int, z = if kmE Sh (xs (5 * (j : Int) + 1).toNat).toInt (xs (5 * (j : Int) + 2).toNat).toInt (xs (5 * (j : Int) + 3).toNat).toInt (xs (5 * (j : Int) + 4).toNat).toInt = 0 then (mEp (s_up Sh 25 0 0) (xs (5 * (j : Int) + 1).toNat).toInt (xs (5 * (j : Int) + 2).toNat).toInt (xs (5 * (j : Int) + 3).toNat).toInt (xs (5 * (j : Int) + 4).toNat).toInt).2 else 0 := ⟨_, rfl⟩
  rw [← hrm] at w7 ⊢
  refine lv_istore (lv' := [(6, Value.int (iI (rm))), (5, Value.int (iI (ans))), (0, Value.ref b), (1, Value.ref (G.2.1 0)), (2, Value.ref (G.2.1 25)), (3, Value.ref (G.2.1 44)), (4, Value.int (iI (5 * (j : Int))))]) hC.1 hC.2.1 d_lw_law_613 hl (by decide) rfl (fun ls hl => ?_)
  refine lv_aload_n hC.1 hC.2.1 d_lw_law_615 rfl (lv_at hl 4 rfl) ?_
  refine go_R (ca_V (As := []) (rest := []) hC hw (c_md_thrown l G Sm1) (cv_lw_55 hC rfl rfl (Nat.le_of_ble_eq_true rfl) (Nat.le_of_ble_eq_true rfl)) (by decide) rfl rfl rfl hl.1 rfl (Nat.le_of_ble_eq_true rfl) d_lw_law_616 ⟨hcl.1, hcl.2⟩) ?_
  rw [w6, ← hans]
  refine lv_iload hC.1 hC.2.1 d_lw_law_619 (lv_at hl 1 rfl) ?_
  refine ir_eq (tgt := 626) hC.1 hC.2.1 d_lw_law_621 (by decide) ⟨by omega, by omega⟩ ⟨by omega, by omega⟩ (fun _ => ?_) (fun z => absurd rfl z)
  refine lv_iload hC.1 hC.2.1 d_lw_law_626 (lv_at hl 1 rfl) ?_
  refine ir_if_ne (tgt := 643) hC.1 hC.2.1 d_lw_law_628 (by decide) ⟨by omega, by omega⟩ (fun hne => ?_) (fun he => ?_)
  · refine lv_goto (tgt := 1017) hC.1 hC.2.1 d_lw_law_643 (by decide) ?_
    exact kk Sm1 H locs ls w5 hw (lv_sub hl [2, 3, 4, 5, 6] rfl)
  · skip
    obtain ⟨w8, w9⟩ := w7 (by omega)
    refine lv_aload_n hC.1 hC.2.1 d_lw_law_631 rfl (lv_at hl 5 rfl) ?_
    refine lv_iconst (v := iI 0) hC.1 hC.2.1 d_lw_law_632 rfl ?_
    refine ld_44 hC hw d_lw_law_633 ?_
    refine lv_iload hC.1 hC.2.1 d_lw_law_634 (lv_at hl 0 rfl) ?_
    refine lv_i2l (v := lI (iI rm).toInt) hC.1 hC.2.1 d_lw_law_636 (lI_i _) ?_
    refine lc_eq (by rw [w9, w8]) hC d_lw_law_637 ?_
    refine ir_if_eq (tgt := 643) hC.1 hC.2.1 d_lw_law_638 (by decide) (by decide) (fun _ => ?_) (fun z => absurd rfl z)
    refine lv_goto (tgt := 1017) hC.1 hC.2.1 d_lw_law_643 (by decide) ?_
    exact kk Sm1 H locs ls w5 hw (lv_sub hl [2, 3, 4, 5, 6] rfl)
set_option maxHeartbeats 4000000 in
set_option maxRecDepth 100000 in
theorem lc_change {p : Program} {l : Launch} {e : Env} {s : State} {m : MethodId} {below : List Frame} {meth : Method} {c : Code} {H : Heap} {locs : List Loc} {cells slots b L : Nat} {Q : State → Prop} {xs : Nat → Int32} {ls : Array Slot} {G : Gt} {S : St} {j : Nat} (hK : LwC p l s m c b L xs G) (hR : Rel S) (hj : 5 * j + 5 ≤ L) (hw : wh G S s H locs) (hl : lv_has ls 7 [(0, Value.ref b), (1, Value.ref (G.2.1 0)), (2, Value.ref (G.2.1 25)), (3, Value.ref (G.2.1 44)), (4, Value.int (iI (5 * (j : Int))))]) (hcl : cells + 1 ≤ 1083 ∧ slots + 6 ≤ 10652)
    (kk : ∀ (S' : St) (H : Heap) (locs : List Loc) (ls : Array Slot), Rel S' → wh G S' s H locs → lv_has ls 7 [(0, Value.ref b), (1, Value.ref (G.2.1 0)), (2, Value.ref (G.2.1 25)), (3, Value.ref (G.2.1 44)), (4, Value.int (iI (5 * (j : Int))))] → W p l e room_1 s m #[Value.ref b] below meth c H locs (cells + 1) (slots + 6) Q (F0 m 1017 ls [])) : W p l e room_1 s m #[Value.ref b] below meth c H locs cells slots Q (F0 m 646 ls []) := by
  have hC := hK.1
  have hl0 := hK.2.2.2.2.2.2.2.1
  have hLb := hK.2.2.2.2.2.2.2.2
  refine lv_aload_n hC.1 hC.2.1 d_lw_law_646 rfl (lv_at hl 1 rfl) ?_
  refine lv_aload_n hC.1 hC.2.1 d_lw_law_647 rfl (lv_at hl 0 rfl) ?_
  refine lv_iload hC.1 hC.2.1 d_lw_law_648 (lv_at hl 4 rfl) ?_
  refine lv_iconst (v := iI 1) hC.1 hC.2.1 d_lw_law_650 rfl ?_
  refine ir_add hC.1 hC.2.1 d_lw_law_651 ?_
  refine sl_ld hK hw (z := 5 * (j : Int) + 1) (by omega) (by omega) d_lw_law_652 ?_
  refine lv_aload_n hC.1 hC.2.1 d_lw_law_653 rfl (lv_at hl 0 rfl) ?_
  refine lv_iload hC.1 hC.2.1 d_lw_law_654 (lv_at hl 4 rfl) ?_
  refine lv_iconst (v := iI 2) hC.1 hC.2.1 d_lw_law_656 rfl ?_
  refine ir_add hC.1 hC.2.1 d_lw_law_657 ?_
  refine sl_ld hK hw (z := 5 * (j : Int) + 2) (by omega) (by omega) d_lw_law_658 ?_
  refine lv_aload_n hC.1 hC.2.1 d_lw_law_659 rfl (lv_at hl 3 rfl) ?_
  refine go_H (run_H (As := [Value.ref (G.2.1 0), Value.int (iI (xs (5 * (j : Int) + 1).toNat).toInt), Value.int (iI (xs (5 * (j : Int) + 2).toNat).toInt), Value.ref (G.2.1 44)]) (rest := []) hK hw (c_lw_change l hl0 G S (xs (5 * (j : Int) + 1).toNat).toInt (xs (5 * (j : Int) + 2).toNat).toInt hR.1 (iI_b _) (iI_b _)) tw_495 tw_0 tw_6 tw_494 tw_493 rfl rfl (Nat.le_of_ble_eq_true rfl) (Nat.le_of_ble_eq_true rfl) (n := 4) (by decide +kernel) rfl hl.1 rfl (Nat.le_of_ble_eq_true rfl) d_lw_law_660 hcl) hw (fun H locs hw => ?_)
  obtain ⟨Sh, hSh⟩ : ∃ Z : St, Z = if kCh S (xs (5 * (j : Int) + 1).toNat).toInt (xs (5 * (j : Int) + 2).toNat).toInt = 0 then s_up (if kCh S (xs (5 * (j : Int) + 1).toNat).toInt (xs (5 * (j : Int) + 2).toNat).toInt = 0 then chS S (xs (5 * (j : Int) + 1).toNat).toInt (xs (5 * (j : Int) + 2).toNat).toInt else S) 44 0 (iI (chR S (xs (5 * (j : Int) + 1).toNat).toInt (xs (5 * (j : Int) + 2).toNat).toInt)).toInt else if kCh S (xs (5 * (j : Int) + 1).toNat).toInt (xs (5 * (j : Int) + 2).toNat).toInt = 0 then chS S (xs (5 * (j : Int) + 1).toNat).toInt (xs (5 * (j : Int) + 2).toNat).toInt else S := ⟨_, rfl⟩
  rw [← hSh] at hw
  obtain ⟨w1, w2, w3, w4, w5, w6, w7⟩ := w_change hR hSh
  have kr := kCh_r S (xs (5 * (j : Int) + 1).toNat).toInt (xs (5 * (j : Int) + 2).toNat).toInt
  obtain ⟨ans, hans⟩ : ∃ z : Int, z = kCh S (xs (5 * (j : Int) + 1).toNat).toInt (xs (5 * (j : Int) + 2).toNat).toInt := ⟨_, rfl⟩
  rw [← hans]
  refine lv_istore (lv' := [(5, Value.int (iI (ans))), (0, Value.ref b), (1, Value.ref (G.2.1 0)), (2, Value.ref (G.2.1 25)), (3, Value.ref (G.2.1 44)), (4, Value.int (iI (5 * (j : Int))))]) hC.1 hC.2.1 d_lw_law_663 hl (by decide) rfl (fun ls hl => ?_)
  refine lv_aload_n hC.1 hC.2.1 d_lw_law_665 rfl (lv_at hl 3 rfl) ?_
  refine lv_aload_n hC.1 hC.2.1 d_lw_law_666 rfl (lv_at hl 1 rfl) ?_
  refine lv_iload hC.1 hC.2.1 d_lw_law_667 (lv_at hl 5 rfl) ?_
  refine lv_iconst (v := iI 1) hC.1 hC.2.1 d_lw_law_669 rfl ?_
  refine ir_add hC.1 hC.2.1 d_lw_law_670 ?_
  refine sl_ld hK hw (z := 5 * (j : Int) + 1) (by omega) (by omega) d_lw_law_671 ?_
  refine lv_aload_n hC.1 hC.2.1 d_lw_law_672 rfl (lv_at hl 1 rfl) ?_
  refine lv_iload hC.1 hC.2.1 d_lw_law_673 (lv_at hl 5 rfl) ?_
  refine lv_iconst (v := iI 2) hC.1 hC.2.1 d_lw_law_675 rfl ?_
  refine ir_add hC.1 hC.2.1 d_lw_law_676 ?_
  refine sl_ld hK hw (z := 5 * (j : Int) + 2) (by omega) (by omega) d_lw_law_677 ?_
  refine go_W (ca_V (As := [Value.int (iI (xs (5 * (j : Int) + 1).toNat).toInt), Value.int (iI (xs (5 * (j : Int) + 2).toNat).toInt)]) (rest := []) hC hw (c_md_change l G Sh (xs (5 * (j : Int) + 1).toNat).toInt (xs (5 * (j : Int) + 2).toNat).toInt w1 (iI_b _) (iI_b _) w4) (cv_lw_85 hC rfl rfl (Nat.le_of_ble_eq_true rfl) (Nat.le_of_ble_eq_true rfl)) (by decide) rfl rfl rfl hl.1 rfl (Nat.le_of_ble_eq_true rfl) d_lw_law_678 ⟨hcl.1, hcl.2⟩) hw (fun H locs hw => ?_)
  obtain ⟨Sm1, hSm⟩ : ∃ Z : St, Z = if kmC Sh (xs (5 * (j : Int) + 1).toNat).toInt (xs (5 * (j : Int) + 2).toNat).toInt = 0 then mChS (s_up Sh 25 0 0) (xs (5 * (j : Int) + 1).toNat).toInt (xs (5 * (j : Int) + 2).toNat).toInt else s_up Sh 25 0 (kmC Sh (xs (5 * (j : Int) + 1).toNat).toInt (xs (5 * (j : Int) + 2).toNat).toInt) := ⟨_, rfl⟩
  rw [← hSm] at hw w5 w6 w7
  obtain ⟨rm, hrm⟩ : ∃ z : Int, z = if kmC Sh (xs (5 * (j : Int) + 1).toNat).toInt (xs (5 * (j : Int) + 2).toNat).toInt = 0 then mChR (s_up Sh 25 0 0) (xs (5 * (j : Int) + 1).toNat).toInt (xs (5 * (j : Int) + 2).toNat).toInt else 0 := ⟨_, rfl⟩
  rw [← hrm] at w7 ⊢
  refine lv_istore (lv' := [(6, Value.int (iI (rm))), (5, Value.int (iI (ans))), (0, Value.ref b), (1, Value.ref (G.2.1 0)), (2, Value.ref (G.2.1 25)), (3, Value.ref (G.2.1 44)), (4, Value.int (iI (5 * (j : Int))))]) hC.1 hC.2.1 d_lw_law_681 hl (by decide) rfl (fun ls hl => ?_)
  refine lv_aload_n hC.1 hC.2.1 d_lw_law_683 rfl (lv_at hl 4 rfl) ?_
  refine go_R (ca_V (As := []) (rest := []) hC hw (c_md_thrown l G Sm1) (cv_lw_55 hC rfl rfl (Nat.le_of_ble_eq_true rfl) (Nat.le_of_ble_eq_true rfl)) (by decide) rfl rfl rfl hl.1 rfl (Nat.le_of_ble_eq_true rfl) d_lw_law_684 ⟨hcl.1, hcl.2⟩) ?_
  rw [w6, ← hans]
  refine lv_iload hC.1 hC.2.1 d_lw_law_687 (lv_at hl 1 rfl) ?_
  refine ir_eq (tgt := 694) hC.1 hC.2.1 d_lw_law_689 (by decide) ⟨by omega, by omega⟩ ⟨by omega, by omega⟩ (fun _ => ?_) (fun z => absurd rfl z)
  refine lv_iload hC.1 hC.2.1 d_lw_law_694 (lv_at hl 1 rfl) ?_
  refine ir_if_ne (tgt := 711) hC.1 hC.2.1 d_lw_law_696 (by decide) ⟨by omega, by omega⟩ (fun hne => ?_) (fun he => ?_)
  · refine lv_goto (tgt := 1017) hC.1 hC.2.1 d_lw_law_711 (by decide) ?_
    exact kk Sm1 H locs ls w5 hw (lv_sub hl [2, 3, 4, 5, 6] rfl)
  · skip
    obtain ⟨w8, w9⟩ := w7 (by omega)
    refine lv_aload_n hC.1 hC.2.1 d_lw_law_699 rfl (lv_at hl 5 rfl) ?_
    refine lv_iconst (v := iI 0) hC.1 hC.2.1 d_lw_law_700 rfl ?_
    refine ld_44 hC hw d_lw_law_701 ?_
    refine lv_iload hC.1 hC.2.1 d_lw_law_702 (lv_at hl 0 rfl) ?_
    refine lv_i2l (v := lI (iI rm).toInt) hC.1 hC.2.1 d_lw_law_704 (lI_i _) ?_
    refine lc_eq (by rw [w9, w8]) hC d_lw_law_705 ?_
    refine ir_if_eq (tgt := 711) hC.1 hC.2.1 d_lw_law_706 (by decide) (by decide) (fun _ => ?_) (fun z => absurd rfl z)
    refine lv_goto (tgt := 1017) hC.1 hC.2.1 d_lw_law_711 (by decide) ?_
    exact kk Sm1 H locs ls w5 hw (lv_sub hl [2, 3, 4, 5, 6] rfl)
set_option maxHeartbeats 4000000 in
set_option maxRecDepth 100000 in
theorem lc_close {p : Program} {l : Launch} {e : Env} {s : State} {m : MethodId} {below : List Frame} {meth : Method} {c : Code} {H : Heap} {locs : List Loc} {cells slots b L : Nat} {Q : State → Prop} {xs : Nat → Int32} {ls : Array Slot} {G : Gt} {S : St} {j : Nat} (hK : LwC p l s m c b L xs G) (hR : Rel S) (hj : 5 * j + 5 ≤ L) (hw : wh G S s H locs) (hl : lv_has ls 7 [(0, Value.ref b), (1, Value.ref (G.2.1 0)), (2, Value.ref (G.2.1 25)), (3, Value.ref (G.2.1 44)), (4, Value.int (iI (5 * (j : Int))))]) (hcl : cells + 1 ≤ 1083 ∧ slots + 6 ≤ 10652)
    (kk : ∀ (S' : St) (H : Heap) (locs : List Loc) (ls : Array Slot), Rel S' → wh G S' s H locs → lv_has ls 7 [(0, Value.ref b), (1, Value.ref (G.2.1 0)), (2, Value.ref (G.2.1 25)), (3, Value.ref (G.2.1 44)), (4, Value.int (iI (5 * (j : Int))))] → W p l e room_1 s m #[Value.ref b] below meth c H locs (cells + 1) (slots + 6) Q (F0 m 1017 ls [])) : W p l e room_1 s m #[Value.ref b] below meth c H locs cells slots Q (F0 m 739 ls []) := by
  have hC := hK.1
  have hl0 := hK.2.2.2.2.2.2.2.1
  have hLb := hK.2.2.2.2.2.2.2.2
  refine lv_aload_n hC.1 hC.2.1 d_lw_law_739 rfl (lv_at hl 1 rfl) ?_
  refine lv_aload_n hC.1 hC.2.1 d_lw_law_740 rfl (lv_at hl 0 rfl) ?_
  refine lv_iload hC.1 hC.2.1 d_lw_law_741 (lv_at hl 4 rfl) ?_
  refine lv_iconst (v := iI 1) hC.1 hC.2.1 d_lw_law_743 rfl ?_
  refine ir_add hC.1 hC.2.1 d_lw_law_744 ?_
  refine sl_ld hK hw (z := 5 * (j : Int) + 1) (by omega) (by omega) d_lw_law_745 ?_
  refine lv_aload_n hC.1 hC.2.1 d_lw_law_746 rfl (lv_at hl 0 rfl) ?_
  refine lv_iload hC.1 hC.2.1 d_lw_law_747 (lv_at hl 4 rfl) ?_
  refine lv_iconst (v := iI 2) hC.1 hC.2.1 d_lw_law_749 rfl ?_
  refine ir_add hC.1 hC.2.1 d_lw_law_750 ?_
  refine sl_ld hK hw (z := 5 * (j : Int) + 2) (by omega) (by omega) d_lw_law_751 ?_
  refine lv_aload_n hC.1 hC.2.1 d_lw_law_752 rfl (lv_at hl 0 rfl) ?_
  refine lv_iload hC.1 hC.2.1 d_lw_law_753 (lv_at hl 4 rfl) ?_
  refine lv_iconst (v := iI 3) hC.1 hC.2.1 d_lw_law_755 rfl ?_
  refine ir_add hC.1 hC.2.1 d_lw_law_756 ?_
  refine sl_ld hK hw (z := 5 * (j : Int) + 3) (by omega) (by omega) d_lw_law_757 ?_
  refine lv_aload_n hC.1 hC.2.1 d_lw_law_758 rfl (lv_at hl 3 rfl) ?_
  refine go_H (run_H (As := [Value.ref (G.2.1 0), Value.int (iI (xs (5 * (j : Int) + 1).toNat).toInt), Value.int (iI (xs (5 * (j : Int) + 2).toNat).toInt), Value.int (iI (xs (5 * (j : Int) + 3).toNat).toInt), Value.ref (G.2.1 44)]) (rest := []) hK hw (c_lw_close l hl0 G S (xs (5 * (j : Int) + 1).toNat).toInt (xs (5 * (j : Int) + 2).toNat).toInt (xs (5 * (j : Int) + 3).toNat).toInt hR.1 (iI_b _) (iI_b _) (iI_b _)) tw_503 tw_0 tw_6 tw_502 tw_501 rfl rfl (Nat.le_of_ble_eq_true rfl) (Nat.le_of_ble_eq_true rfl) (n := 5) (by decide +kernel) rfl hl.1 rfl (Nat.le_of_ble_eq_true rfl) d_lw_law_759 hcl) hw (fun H locs hw => ?_)
  obtain ⟨Sh, hSh⟩ : ∃ Z : St, Z = if kCl S (xs (5 * (j : Int) + 1).toNat).toInt (xs (5 * (j : Int) + 2).toNat).toInt (xs (5 * (j : Int) + 3).toNat).toInt = 0 then s_up (if kCl S (xs (5 * (j : Int) + 1).toNat).toInt (xs (5 * (j : Int) + 2).toNat).toInt (xs (5 * (j : Int) + 3).toNat).toInt = 0 then eSt (aSp S (xs (5 * (j : Int) + 1).toNat).toInt (xs (5 * (j : Int) + 2).toNat).toInt (xs (5 * (j : Int) + 3).toNat).toInt) (xs (5 * (j : Int) + 1).toNat).toInt (xs (5 * (j : Int) + 2).toNat).toInt (xs (5 * (j : Int) + 3).toNat).toInt (aSp S (xs (5 * (j : Int) + 1).toNat).toInt (xs (5 * (j : Int) + 2).toNat).toInt (xs (5 * (j : Int) + 3).toNat).toInt 3 0).toNat else S) 44 0 (iI (eCt (aSp S (xs (5 * (j : Int) + 1).toNat).toInt (xs (5 * (j : Int) + 2).toNat).toInt (xs (5 * (j : Int) + 3).toNat).toInt) (xs (5 * (j : Int) + 1).toNat).toInt (xs (5 * (j : Int) + 2).toNat).toInt (xs (5 * (j : Int) + 3).toNat).toInt (aSp S (xs (5 * (j : Int) + 1).toNat).toInt (xs (5 * (j : Int) + 2).toNat).toInt (xs (5 * (j : Int) + 3).toNat).toInt 3 0).toNat)).toInt else if kCl S (xs (5 * (j : Int) + 1).toNat).toInt (xs (5 * (j : Int) + 2).toNat).toInt (xs (5 * (j : Int) + 3).toNat).toInt = 0 then eSt (aSp S (xs (5 * (j : Int) + 1).toNat).toInt (xs (5 * (j : Int) + 2).toNat).toInt (xs (5 * (j : Int) + 3).toNat).toInt) (xs (5 * (j : Int) + 1).toNat).toInt (xs (5 * (j : Int) + 2).toNat).toInt (xs (5 * (j : Int) + 3).toNat).toInt (aSp S (xs (5 * (j : Int) + 1).toNat).toInt (xs (5 * (j : Int) + 2).toNat).toInt (xs (5 * (j : Int) + 3).toNat).toInt 3 0).toNat else S := ⟨_, rfl⟩
  rw [← hSh] at hw
  obtain ⟨w1, w2, w3, w4, w5, w6, w7⟩ := w_close hR hSh
  have kr := kCl_r S (xs (5 * (j : Int) + 1).toNat).toInt (xs (5 * (j : Int) + 2).toNat).toInt (xs (5 * (j : Int) + 3).toNat).toInt
  obtain ⟨ans, hans⟩ : ∃ z : Int, z = kCl S (xs (5 * (j : Int) + 1).toNat).toInt (xs (5 * (j : Int) + 2).toNat).toInt (xs (5 * (j : Int) + 3).toNat).toInt := ⟨_, rfl⟩
  rw [← hans]
  refine lv_istore (lv' := [(5, Value.int (iI (ans))), (0, Value.ref b), (1, Value.ref (G.2.1 0)), (2, Value.ref (G.2.1 25)), (3, Value.ref (G.2.1 44)), (4, Value.int (iI (5 * (j : Int))))]) hC.1 hC.2.1 d_lw_law_762 hl (by decide) rfl (fun ls hl => ?_)
  refine lv_aload_n hC.1 hC.2.1 d_lw_law_764 rfl (lv_at hl 3 rfl) ?_
  refine lv_aload_n hC.1 hC.2.1 d_lw_law_765 rfl (lv_at hl 1 rfl) ?_
  refine lv_iload hC.1 hC.2.1 d_lw_law_766 (lv_at hl 5 rfl) ?_
  refine lv_iconst (v := iI 1) hC.1 hC.2.1 d_lw_law_768 rfl ?_
  refine ir_add hC.1 hC.2.1 d_lw_law_769 ?_
  refine sl_ld hK hw (z := 5 * (j : Int) + 1) (by omega) (by omega) d_lw_law_770 ?_
  refine lv_aload_n hC.1 hC.2.1 d_lw_law_771 rfl (lv_at hl 1 rfl) ?_
  refine lv_iload hC.1 hC.2.1 d_lw_law_772 (lv_at hl 5 rfl) ?_
  refine lv_iconst (v := iI 2) hC.1 hC.2.1 d_lw_law_774 rfl ?_
  refine ir_add hC.1 hC.2.1 d_lw_law_775 ?_
  refine sl_ld hK hw (z := 5 * (j : Int) + 2) (by omega) (by omega) d_lw_law_776 ?_
  refine lv_aload_n hC.1 hC.2.1 d_lw_law_777 rfl (lv_at hl 1 rfl) ?_
  refine lv_iload hC.1 hC.2.1 d_lw_law_778 (lv_at hl 5 rfl) ?_
  refine lv_iconst (v := iI 3) hC.1 hC.2.1 d_lw_law_780 rfl ?_
  refine ir_add hC.1 hC.2.1 d_lw_law_781 ?_
  refine sl_ld hK hw (z := 5 * (j : Int) + 3) (by omega) (by omega) d_lw_law_782 ?_
  refine go_W (ca_V (As := [Value.int (iI (xs (5 * (j : Int) + 1).toNat).toInt), Value.int (iI (xs (5 * (j : Int) + 2).toNat).toInt), Value.int (iI (xs (5 * (j : Int) + 3).toNat).toInt)]) (rest := []) hC hw (c_md_close l G Sh (xs (5 * (j : Int) + 1).toNat).toInt (xs (5 * (j : Int) + 2).toNat).toInt (xs (5 * (j : Int) + 3).toNat).toInt w1 (iI_b _) (iI_b _) (iI_b _) w4) (cv_lw_93 hC rfl rfl (Nat.le_of_ble_eq_true rfl) (Nat.le_of_ble_eq_true rfl)) (by decide) rfl rfl rfl hl.1 rfl (Nat.le_of_ble_eq_true rfl) d_lw_law_783 ⟨hcl.1, hcl.2⟩) hw (fun H locs hw => ?_)
  obtain ⟨Sm1, hSm⟩ : ∃ Z : St, Z = if kmX Sh (xs (5 * (j : Int) + 1).toNat).toInt (xs (5 * (j : Int) + 2).toNat).toInt (xs (5 * (j : Int) + 3).toNat).toInt = 0 then mCs (mSa (s_up Sh 25 0 0) (xs (5 * (j : Int) + 1).toNat).toInt (xs (5 * (j : Int) + 2).toNat).toInt (xs (5 * (j : Int) + 3).toNat).toInt) (xs (5 * (j : Int) + 1).toNat).toInt (xs (5 * (j : Int) + 2).toNat).toInt (xs (5 * (j : Int) + 3).toNat).toInt (Sh 25 16).toNat else s_up Sh 25 0 (kmX Sh (xs (5 * (j : Int) + 1).toNat).toInt (xs (5 * (j : Int) + 2).toNat).toInt (xs (5 * (j : Int) + 3).toNat).toInt) := ⟨_, rfl⟩
  rw [← hSm] at hw w5 w6 w7
  obtain ⟨rm, hrm⟩ : ∃ z : Int, z = if kmX Sh (xs (5 * (j : Int) + 1).toNat).toInt (xs (5 * (j : Int) + 2).toNat).toInt (xs (5 * (j : Int) + 3).toNat).toInt = 0 then mCc (mSa (s_up Sh 25 0 0) (xs (5 * (j : Int) + 1).toNat).toInt (xs (5 * (j : Int) + 2).toNat).toInt (xs (5 * (j : Int) + 3).toNat).toInt) (xs (5 * (j : Int) + 1).toNat).toInt (xs (5 * (j : Int) + 2).toNat).toInt (xs (5 * (j : Int) + 3).toNat).toInt (Sh 25 16).toNat else 0 := ⟨_, rfl⟩
  rw [← hrm] at w7 ⊢
  refine lv_istore (lv' := [(6, Value.int (iI (rm))), (5, Value.int (iI (ans))), (0, Value.ref b), (1, Value.ref (G.2.1 0)), (2, Value.ref (G.2.1 25)), (3, Value.ref (G.2.1 44)), (4, Value.int (iI (5 * (j : Int))))]) hC.1 hC.2.1 d_lw_law_786 hl (by decide) rfl (fun ls hl => ?_)
  refine lv_aload_n hC.1 hC.2.1 d_lw_law_788 rfl (lv_at hl 4 rfl) ?_
  refine go_R (ca_V (As := []) (rest := []) hC hw (c_md_thrown l G Sm1) (cv_lw_55 hC rfl rfl (Nat.le_of_ble_eq_true rfl) (Nat.le_of_ble_eq_true rfl)) (by decide) rfl rfl rfl hl.1 rfl (Nat.le_of_ble_eq_true rfl) d_lw_law_789 ⟨hcl.1, hcl.2⟩) ?_
  rw [w6, ← hans]
  refine lv_iload hC.1 hC.2.1 d_lw_law_792 (lv_at hl 1 rfl) ?_
  refine ir_eq (tgt := 799) hC.1 hC.2.1 d_lw_law_794 (by decide) ⟨by omega, by omega⟩ ⟨by omega, by omega⟩ (fun _ => ?_) (fun z => absurd rfl z)
  refine lv_iload hC.1 hC.2.1 d_lw_law_799 (lv_at hl 1 rfl) ?_
  refine ir_if_ne (tgt := 816) hC.1 hC.2.1 d_lw_law_801 (by decide) ⟨by omega, by omega⟩ (fun hne => ?_) (fun he => ?_)
  · refine lv_goto (tgt := 1017) hC.1 hC.2.1 d_lw_law_816 (by decide) ?_
    exact kk Sm1 H locs ls w5 hw (lv_sub hl [2, 3, 4, 5, 6] rfl)
  · skip
    obtain ⟨w8, w9⟩ := w7 (by omega)
    refine lv_aload_n hC.1 hC.2.1 d_lw_law_804 rfl (lv_at hl 5 rfl) ?_
    refine lv_iconst (v := iI 0) hC.1 hC.2.1 d_lw_law_805 rfl ?_
    refine ld_44 hC hw d_lw_law_806 ?_
    refine lv_iload hC.1 hC.2.1 d_lw_law_807 (lv_at hl 0 rfl) ?_
    refine lv_i2l (v := lI (iI rm).toInt) hC.1 hC.2.1 d_lw_law_809 (lI_i _) ?_
    refine lc_eq (by rw [w9, w8]) hC d_lw_law_810 ?_
    refine ir_if_eq (tgt := 816) hC.1 hC.2.1 d_lw_law_811 (by decide) (by decide) (fun _ => ?_) (fun z => absurd rfl z)
    refine lv_goto (tgt := 1017) hC.1 hC.2.1 d_lw_law_816 (by decide) ?_
    exact kk Sm1 H locs ls w5 hw (lv_sub hl [2, 3, 4, 5, 6] rfl)
set_option maxHeartbeats 4000000 in
set_option maxRecDepth 100000 in
theorem lc_conflict {p : Program} {l : Launch} {e : Env} {s : State} {m : MethodId} {below : List Frame} {meth : Method} {c : Code} {H : Heap} {locs : List Loc} {cells slots b L : Nat} {Q : State → Prop} {xs : Nat → Int32} {ls : Array Slot} {G : Gt} {S : St} {j : Nat} (hK : LwC p l s m c b L xs G) (hR : Rel S) (hj : 5 * j + 5 ≤ L) (hw : wh G S s H locs) (hl : lv_has ls 7 [(0, Value.ref b), (1, Value.ref (G.2.1 0)), (2, Value.ref (G.2.1 25)), (3, Value.ref (G.2.1 44)), (4, Value.int (iI (5 * (j : Int))))]) (hcl : cells + 1 ≤ 1083 ∧ slots + 6 ≤ 10652)
    (kk : ∀ (S' : St) (H : Heap) (locs : List Loc) (ls : Array Slot), Rel S' → wh G S' s H locs → lv_has ls 7 [(0, Value.ref b), (1, Value.ref (G.2.1 0)), (2, Value.ref (G.2.1 25)), (3, Value.ref (G.2.1 44)), (4, Value.int (iI (5 * (j : Int))))] → W p l e room_1 s m #[Value.ref b] below meth c H locs (cells + 1) (slots + 6) Q (F0 m 1017 ls [])) : W p l e room_1 s m #[Value.ref b] below meth c H locs cells slots Q (F0 m 844 ls []) := by
  have hC := hK.1
  have hl0 := hK.2.2.2.2.2.2.2.1
  have hLb := hK.2.2.2.2.2.2.2.2
  refine lv_aload_n hC.1 hC.2.1 d_lw_law_844 rfl (lv_at hl 1 rfl) ?_
  refine lv_aload_n hC.1 hC.2.1 d_lw_law_845 rfl (lv_at hl 0 rfl) ?_
  refine lv_iload hC.1 hC.2.1 d_lw_law_846 (lv_at hl 4 rfl) ?_
  refine lv_iconst (v := iI 1) hC.1 hC.2.1 d_lw_law_848 rfl ?_
  refine ir_add hC.1 hC.2.1 d_lw_law_849 ?_
  refine sl_ld hK hw (z := 5 * (j : Int) + 1) (by omega) (by omega) d_lw_law_850 ?_
  refine lv_aload_n hC.1 hC.2.1 d_lw_law_851 rfl (lv_at hl 0 rfl) ?_
  refine lv_iload hC.1 hC.2.1 d_lw_law_852 (lv_at hl 4 rfl) ?_
  refine lv_iconst (v := iI 2) hC.1 hC.2.1 d_lw_law_854 rfl ?_
  refine ir_add hC.1 hC.2.1 d_lw_law_855 ?_
  refine sl_ld hK hw (z := 5 * (j : Int) + 2) (by omega) (by omega) d_lw_law_856 ?_
  refine lv_aload_n hC.1 hC.2.1 d_lw_law_857 rfl (lv_at hl 3 rfl) ?_
  refine go_H (run_H (As := [Value.ref (G.2.1 0), Value.int (iI (xs (5 * (j : Int) + 1).toNat).toInt), Value.int (iI (xs (5 * (j : Int) + 2).toNat).toInt), Value.ref (G.2.1 44)]) (rest := []) hK hw (c_lw_conflict l hl0 G S (xs (5 * (j : Int) + 1).toNat).toInt (xs (5 * (j : Int) + 2).toNat).toInt hR.1 (iI_b _) (iI_b _)) tw_520 tw_0 tw_6 tw_519 tw_518 rfl rfl (Nat.le_of_ble_eq_true rfl) (Nat.le_of_ble_eq_true rfl) (n := 4) (by decide +kernel) rfl hl.1 rfl (Nat.le_of_ble_eq_true rfl) d_lw_law_858 hcl) hw (fun H locs hw => ?_)
  obtain ⟨Sh, hSh⟩ : ∃ Z : St, Z = if kCo (xs (5 * (j : Int) + 2).toNat).toInt = 0 then s_up (if kCo (xs (5 * (j : Int) + 2).toNat).toInt = 0 then coS S (xs (5 * (j : Int) + 1).toNat).toInt else S) 44 0 (iI (coR S (xs (5 * (j : Int) + 1).toNat).toInt (xs (5 * (j : Int) + 2).toNat).toInt)).toInt else if kCo (xs (5 * (j : Int) + 2).toNat).toInt = 0 then coS S (xs (5 * (j : Int) + 1).toNat).toInt else S := ⟨_, rfl⟩
  rw [← hSh] at hw
  obtain ⟨w1, w2, w3, w4, w5, w6, w7⟩ := w_conflict hR hSh
  have kr := kCo_r (xs (5 * (j : Int) + 2).toNat).toInt
  obtain ⟨ans, hans⟩ : ∃ z : Int, z = kCo (xs (5 * (j : Int) + 2).toNat).toInt := ⟨_, rfl⟩
  rw [← hans]
  refine lv_istore (lv' := [(5, Value.int (iI (ans))), (0, Value.ref b), (1, Value.ref (G.2.1 0)), (2, Value.ref (G.2.1 25)), (3, Value.ref (G.2.1 44)), (4, Value.int (iI (5 * (j : Int))))]) hC.1 hC.2.1 d_lw_law_861 hl (by decide) rfl (fun ls hl => ?_)
  refine lv_aload_n hC.1 hC.2.1 d_lw_law_863 rfl (lv_at hl 3 rfl) ?_
  refine lv_aload_n hC.1 hC.2.1 d_lw_law_864 rfl (lv_at hl 1 rfl) ?_
  refine lv_iload hC.1 hC.2.1 d_lw_law_865 (lv_at hl 5 rfl) ?_
  refine lv_iconst (v := iI 1) hC.1 hC.2.1 d_lw_law_867 rfl ?_
  refine ir_add hC.1 hC.2.1 d_lw_law_868 ?_
  refine sl_ld hK hw (z := 5 * (j : Int) + 1) (by omega) (by omega) d_lw_law_869 ?_
  refine lv_aload_n hC.1 hC.2.1 d_lw_law_870 rfl (lv_at hl 1 rfl) ?_
  refine lv_iload hC.1 hC.2.1 d_lw_law_871 (lv_at hl 5 rfl) ?_
  refine lv_iconst (v := iI 2) hC.1 hC.2.1 d_lw_law_873 rfl ?_
  refine ir_add hC.1 hC.2.1 d_lw_law_874 ?_
  refine sl_ld hK hw (z := 5 * (j : Int) + 2) (by omega) (by omega) d_lw_law_875 ?_
  refine go_W (ca_V (As := [Value.int (iI (xs (5 * (j : Int) + 1).toNat).toInt), Value.int (iI (xs (5 * (j : Int) + 2).toNat).toInt)]) (rest := []) hC hw (c_md_conflict l G Sh (xs (5 * (j : Int) + 1).toNat).toInt (xs (5 * (j : Int) + 2).toNat).toInt w1 (iI_b _) (iI_b _) w4) (cv_lw_100 hC rfl rfl (Nat.le_of_ble_eq_true rfl) (Nat.le_of_ble_eq_true rfl)) (by decide) rfl rfl rfl hl.1 rfl (Nat.le_of_ble_eq_true rfl) d_lw_law_876 ⟨hcl.1, hcl.2⟩) hw (fun H locs hw => ?_)
  obtain ⟨Sm1, hSm⟩ : ∃ Z : St, Z = if kCo (xs (5 * (j : Int) + 2).toNat).toInt = 0 then s_up Sh 25 0 0 else s_up Sh 25 0 (kCo (xs (5 * (j : Int) + 2).toNat).toInt) := ⟨_, rfl⟩
  rw [← hSm] at hw w5 w6 w7
  obtain ⟨rm, hrm⟩ : ∃ z : Int, z = if kCo (xs (5 * (j : Int) + 2).toNat).toInt = 0 then if (xs (5 * (j : Int) + 1).toNat).toInt < 0 then -1 else mCf (s_up Sh 25 0 0) (xs (5 * (j : Int) + 1).toNat).toInt (xs (5 * (j : Int) + 2).toNat).toInt else 0 := ⟨_, rfl⟩
  rw [← hrm] at w7 ⊢
  refine lv_istore (lv' := [(6, Value.int (iI (rm))), (5, Value.int (iI (ans))), (0, Value.ref b), (1, Value.ref (G.2.1 0)), (2, Value.ref (G.2.1 25)), (3, Value.ref (G.2.1 44)), (4, Value.int (iI (5 * (j : Int))))]) hC.1 hC.2.1 d_lw_law_879 hl (by decide) rfl (fun ls hl => ?_)
  refine lv_aload_n hC.1 hC.2.1 d_lw_law_881 rfl (lv_at hl 4 rfl) ?_
  refine go_R (ca_V (As := []) (rest := []) hC hw (c_md_thrown l G Sm1) (cv_lw_55 hC rfl rfl (Nat.le_of_ble_eq_true rfl) (Nat.le_of_ble_eq_true rfl)) (by decide) rfl rfl rfl hl.1 rfl (Nat.le_of_ble_eq_true rfl) d_lw_law_882 ⟨hcl.1, hcl.2⟩) ?_
  rw [w6, ← hans]
  refine lv_iload hC.1 hC.2.1 d_lw_law_885 (lv_at hl 1 rfl) ?_
  refine ir_eq (tgt := 892) hC.1 hC.2.1 d_lw_law_887 (by decide) ⟨by omega, by omega⟩ ⟨by omega, by omega⟩ (fun _ => ?_) (fun z => absurd rfl z)
  refine lv_iload hC.1 hC.2.1 d_lw_law_892 (lv_at hl 1 rfl) ?_
  refine ir_if_ne (tgt := 909) hC.1 hC.2.1 d_lw_law_894 (by decide) ⟨by omega, by omega⟩ (fun hne => ?_) (fun he => ?_)
  · refine lv_goto (tgt := 1017) hC.1 hC.2.1 d_lw_law_909 (by decide) ?_
    exact kk Sm1 H locs ls w5 hw (lv_sub hl [2, 3, 4, 5, 6] rfl)
  · skip
    obtain ⟨w8, w9⟩ := w7 (by omega)
    refine lv_aload_n hC.1 hC.2.1 d_lw_law_897 rfl (lv_at hl 5 rfl) ?_
    refine lv_iconst (v := iI 0) hC.1 hC.2.1 d_lw_law_898 rfl ?_
    refine ld_44 hC hw d_lw_law_899 ?_
    refine lv_iload hC.1 hC.2.1 d_lw_law_900 (lv_at hl 0 rfl) ?_
    refine lv_i2l (v := lI (iI rm).toInt) hC.1 hC.2.1 d_lw_law_902 (lI_i _) ?_
    refine lc_eq (by rw [w9, w8]) hC d_lw_law_903 ?_
    refine ir_if_eq (tgt := 909) hC.1 hC.2.1 d_lw_law_904 (by decide) (by decide) (fun _ => ?_) (fun z => absurd rfl z)
    refine lv_goto (tgt := 1017) hC.1 hC.2.1 d_lw_law_909 (by decide) ?_
    exact kk Sm1 H locs ls w5 hw (lv_sub hl [2, 3, 4, 5, 6] rfl)
set_option maxHeartbeats 4000000 in
set_option maxRecDepth 100000 in
theorem lc_at {p : Program} {l : Launch} {e : Env} {s : State} {m : MethodId} {below : List Frame} {meth : Method} {c : Code} {H : Heap} {locs : List Loc} {cells slots b L : Nat} {Q : State → Prop} {xs : Nat → Int32} {ls : Array Slot} {G : Gt} {S : St} {j : Nat} (hK : LwC p l s m c b L xs G) (hR : Rel S) (hj : 5 * j + 5 ≤ L) (hw : wh G S s H locs) (hl : lv_has ls 7 [(0, Value.ref b), (1, Value.ref (G.2.1 0)), (2, Value.ref (G.2.1 25)), (3, Value.ref (G.2.1 44)), (4, Value.int (iI (5 * (j : Int))))]) (hcl : cells + 1 ≤ 1083 ∧ slots + 6 ≤ 10652)
    (kk : ∀ (S' : St) (H : Heap) (locs : List Loc) (ls : Array Slot), Rel S' → wh G S' s H locs → lv_has ls 7 [(0, Value.ref b), (1, Value.ref (G.2.1 0)), (2, Value.ref (G.2.1 25)), (3, Value.ref (G.2.1 44)), (4, Value.int (iI (5 * (j : Int))))] → W p l e room_1 s m #[Value.ref b] below meth c H locs (cells + 1) (slots + 6) Q (F0 m 1017 ls [])) : W p l e room_1 s m #[Value.ref b] below meth c H locs cells slots Q (F0 m 912 ls []) := by
  have hC := hK.1
  have hl0 := hK.2.2.2.2.2.2.2.1
  have hLb := hK.2.2.2.2.2.2.2.2
  refine lv_aload_n hC.1 hC.2.1 d_lw_law_912 rfl (lv_at hl 1 rfl) ?_
  refine lv_aload_n hC.1 hC.2.1 d_lw_law_913 rfl (lv_at hl 0 rfl) ?_
  refine lv_iload hC.1 hC.2.1 d_lw_law_914 (lv_at hl 4 rfl) ?_
  refine lv_iconst (v := iI 1) hC.1 hC.2.1 d_lw_law_916 rfl ?_
  refine ir_add hC.1 hC.2.1 d_lw_law_917 ?_
  refine sl_ld hK hw (z := 5 * (j : Int) + 1) (by omega) (by omega) d_lw_law_918 ?_
  refine lv_aload_n hC.1 hC.2.1 d_lw_law_919 rfl (lv_at hl 0 rfl) ?_
  refine lv_iload hC.1 hC.2.1 d_lw_law_920 (lv_at hl 4 rfl) ?_
  refine lv_iconst (v := iI 2) hC.1 hC.2.1 d_lw_law_922 rfl ?_
  refine ir_add hC.1 hC.2.1 d_lw_law_923 ?_
  refine sl_ld hK hw (z := 5 * (j : Int) + 2) (by omega) (by omega) d_lw_law_924 ?_
  refine lv_aload_n hC.1 hC.2.1 d_lw_law_925 rfl (lv_at hl 0 rfl) ?_
  refine lv_iload hC.1 hC.2.1 d_lw_law_926 (lv_at hl 4 rfl) ?_
  refine lv_iconst (v := iI 3) hC.1 hC.2.1 d_lw_law_928 rfl ?_
  refine ir_add hC.1 hC.2.1 d_lw_law_929 ?_
  refine sl_ld hK hw (z := 5 * (j : Int) + 3) (by omega) (by omega) d_lw_law_930 ?_
  refine lv_aload_n hC.1 hC.2.1 d_lw_law_931 rfl (lv_at hl 3 rfl) ?_
  refine go_H (run_H (As := [Value.ref (G.2.1 0), Value.int (iI (xs (5 * (j : Int) + 1).toNat).toInt), Value.int (iI (xs (5 * (j : Int) + 2).toNat).toInt), Value.int (iI (xs (5 * (j : Int) + 3).toNat).toInt), Value.ref (G.2.1 44)]) (rest := []) hK hw (c_lw_at l hl0 G S (xs (5 * (j : Int) + 1).toNat).toInt (xs (5 * (j : Int) + 2).toNat).toInt (xs (5 * (j : Int) + 3).toNat).toInt hR.1 (iI_b _) (iI_b _) (iI_b _)) tw_528 tw_0 tw_6 tw_527 tw_526 rfl rfl (Nat.le_of_ble_eq_true rfl) (Nat.le_of_ble_eq_true rfl) (n := 5) (by decide +kernel) rfl hl.1 rfl (Nat.le_of_ble_eq_true rfl) d_lw_law_932 hcl) hw (fun H locs hw => ?_)
  obtain ⟨Sh, hSh⟩ : ∃ Z : St, Z = if kAt S (xs (5 * (j : Int) + 1).toNat).toInt (xs (5 * (j : Int) + 2).toNat).toInt (xs (5 * (j : Int) + 3).toNat).toInt = 0 then s_up (S) 44 0 (iI (atR S (xs (5 * (j : Int) + 1).toNat).toInt (xs (5 * (j : Int) + 2).toNat).toInt (xs (5 * (j : Int) + 3).toNat).toInt)).toInt else S := ⟨_, rfl⟩
  rw [← hSh] at hw
  obtain ⟨w1, w2, w3, w4, w5, w6, w7⟩ := w_at hR hSh
  have kr : (if kAt S (xs (5 * (j : Int) + 1).toNat).toInt (xs (5 * (j : Int) + 2).toNat).toInt (xs (5 * (j : Int) + 3).toNat).toInt = 0 then 0 else 1 : Int) = 0 ∨ (if kAt S (xs (5 * (j : Int) + 1).toNat).toInt (xs (5 * (j : Int) + 2).toNat).toInt (xs (5 * (j : Int) + 3).toNat).toInt = 0 then 0 else 1 : Int) = 1 := (by split <;> simp)
  obtain ⟨ans, hans⟩ : ∃ z : Int, z = if kAt S (xs (5 * (j : Int) + 1).toNat).toInt (xs (5 * (j : Int) + 2).toNat).toInt (xs (5 * (j : Int) + 3).toNat).toInt = 0 then 0 else 1 := ⟨_, rfl⟩
  rw [← hans]
  refine lv_istore (lv' := [(5, Value.int (iI (ans))), (0, Value.ref b), (1, Value.ref (G.2.1 0)), (2, Value.ref (G.2.1 25)), (3, Value.ref (G.2.1 44)), (4, Value.int (iI (5 * (j : Int))))]) hC.1 hC.2.1 d_lw_law_935 hl (by decide) rfl (fun ls hl => ?_)
  refine lv_aload_n hC.1 hC.2.1 d_lw_law_937 rfl (lv_at hl 3 rfl) ?_
  refine lv_aload_n hC.1 hC.2.1 d_lw_law_938 rfl (lv_at hl 1 rfl) ?_
  refine lv_iload hC.1 hC.2.1 d_lw_law_939 (lv_at hl 5 rfl) ?_
  refine lv_iconst (v := iI 1) hC.1 hC.2.1 d_lw_law_941 rfl ?_
  refine ir_add hC.1 hC.2.1 d_lw_law_942 ?_
  refine sl_ld hK hw (z := 5 * (j : Int) + 1) (by omega) (by omega) d_lw_law_943 ?_
  refine lv_aload_n hC.1 hC.2.1 d_lw_law_944 rfl (lv_at hl 1 rfl) ?_
  refine lv_iload hC.1 hC.2.1 d_lw_law_945 (lv_at hl 5 rfl) ?_
  refine lv_iconst (v := iI 2) hC.1 hC.2.1 d_lw_law_947 rfl ?_
  refine ir_add hC.1 hC.2.1 d_lw_law_948 ?_
  refine sl_ld hK hw (z := 5 * (j : Int) + 2) (by omega) (by omega) d_lw_law_949 ?_
  refine lv_aload_n hC.1 hC.2.1 d_lw_law_950 rfl (lv_at hl 1 rfl) ?_
  refine lv_iload hC.1 hC.2.1 d_lw_law_951 (lv_at hl 5 rfl) ?_
  refine lv_iconst (v := iI 3) hC.1 hC.2.1 d_lw_law_953 rfl ?_
  refine ir_add hC.1 hC.2.1 d_lw_law_954 ?_
  refine sl_ld hK hw (z := 5 * (j : Int) + 3) (by omega) (by omega) d_lw_law_955 ?_
  refine go_W (ca_V (As := [Value.int (iI (xs (5 * (j : Int) + 1).toNat).toInt), Value.int (iI (xs (5 * (j : Int) + 2).toNat).toInt), Value.int (iI (xs (5 * (j : Int) + 3).toNat).toInt)]) (rest := []) hC hw (c_md_at l G Sh (xs (5 * (j : Int) + 1).toNat).toInt (xs (5 * (j : Int) + 2).toNat).toInt (xs (5 * (j : Int) + 3).toNat).toInt w1 (iI_b _) (iI_b _) (iI_b _) w4) (cv_lw_103 hC rfl rfl (Nat.le_of_ble_eq_true rfl) (Nat.le_of_ble_eq_true rfl)) (by decide) rfl rfl rfl hl.1 rfl (Nat.le_of_ble_eq_true rfl) d_lw_law_956 ⟨hcl.1, hcl.2⟩) hw (fun H locs hw => ?_)
  obtain ⟨Sm1, hSm⟩ : ∃ Z : St, Z = if kmT Sh (xs (5 * (j : Int) + 1).toNat).toInt (xs (5 * (j : Int) + 2).toNat).toInt (xs (5 * (j : Int) + 3).toNat).toInt = 0 then s_up Sh 25 0 0 else s_up Sh 25 0 (kmT Sh (xs (5 * (j : Int) + 1).toNat).toInt (xs (5 * (j : Int) + 2).toNat).toInt (xs (5 * (j : Int) + 3).toNat).toInt) := ⟨_, rfl⟩
  rw [← hSm] at hw w5 w6 w7
  obtain ⟨rm, hrm⟩ : ∃ z : Int, z = if kmT Sh (xs (5 * (j : Int) + 1).toNat).toInt (xs (5 * (j : Int) + 2).toNat).toInt (xs (5 * (j : Int) + 3).toNat).toInt = 0 then mAtR (s_up Sh 25 0 0) (xs (5 * (j : Int) + 1).toNat).toInt (xs (5 * (j : Int) + 2).toNat).toInt (xs (5 * (j : Int) + 3).toNat).toInt else 0 := ⟨_, rfl⟩
  rw [← hrm] at w7 ⊢
  refine lv_istore (lv' := [(6, Value.int (iI (rm))), (5, Value.int (iI (ans))), (0, Value.ref b), (1, Value.ref (G.2.1 0)), (2, Value.ref (G.2.1 25)), (3, Value.ref (G.2.1 44)), (4, Value.int (iI (5 * (j : Int))))]) hC.1 hC.2.1 d_lw_law_959 hl (by decide) rfl (fun ls hl => ?_)
  refine lv_aload_n hC.1 hC.2.1 d_lw_law_961 rfl (lv_at hl 4 rfl) ?_
  refine go_R (ca_V (As := []) (rest := []) hC hw (c_md_thrown l G Sm1) (cv_lw_55 hC rfl rfl (Nat.le_of_ble_eq_true rfl) (Nat.le_of_ble_eq_true rfl)) (by decide) rfl rfl rfl hl.1 rfl (Nat.le_of_ble_eq_true rfl) d_lw_law_962 ⟨hcl.1, hcl.2⟩) ?_
  rw [w6, ← hans]
  refine lv_iload hC.1 hC.2.1 d_lw_law_965 (lv_at hl 1 rfl) ?_
  refine ir_eq (tgt := 972) hC.1 hC.2.1 d_lw_law_967 (by decide) ⟨by omega, by omega⟩ ⟨by omega, by omega⟩ (fun _ => ?_) (fun z => absurd rfl z)
  refine lv_iload hC.1 hC.2.1 d_lw_law_972 (lv_at hl 1 rfl) ?_
  refine ir_if_ne (tgt := 989) hC.1 hC.2.1 d_lw_law_974 (by decide) ⟨by omega, by omega⟩ (fun hne => ?_) (fun he => ?_)
  · refine lv_goto (tgt := 1017) hC.1 hC.2.1 d_lw_law_989 (by decide) ?_
    exact kk Sm1 H locs ls w5 hw (lv_sub hl [2, 3, 4, 5, 6] rfl)
  · skip
    obtain ⟨w8, w9⟩ := w7 (by omega)
    refine lv_aload_n hC.1 hC.2.1 d_lw_law_977 rfl (lv_at hl 5 rfl) ?_
    refine lv_iconst (v := iI 0) hC.1 hC.2.1 d_lw_law_978 rfl ?_
    refine ld_44 hC hw d_lw_law_979 ?_
    refine lv_iload hC.1 hC.2.1 d_lw_law_980 (lv_at hl 0 rfl) ?_
    refine lv_i2l (v := lI (iI rm).toInt) hC.1 hC.2.1 d_lw_law_982 (lI_i _) ?_
    refine lc_eq (by rw [w9, w8]) hC d_lw_law_983 ?_
    refine ir_if_eq (tgt := 989) hC.1 hC.2.1 d_lw_law_984 (by decide) (by decide) (fun _ => ?_) (fun z => absurd rfl z)
    refine lv_goto (tgt := 1017) hC.1 hC.2.1 d_lw_law_989 (by decide) ?_
    exact kk Sm1 H locs ls w5 hw (lv_sub hl [2, 3, 4, 5, 6] rfl)

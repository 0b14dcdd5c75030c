/-! the law, case by case: plain answers -/
theorem i_rule {S : St} (h : Rel S) {q k v : Int} : Inv (if rul S q k v = true then s_up S 10 (q * 5 + k).toNat v else S) := by
  split
  · rename_i hw
    unfold rul at hw
    rw [Bool.and_eq_true, Bool.and_eq_true] at hw
    have h3 := wn_t hw.2.2
    have hg := gV_b k
    exact Inv.up (q := 10) h.1 (by omega) (show _ ≤ (100 : Int) by omega)
  · exact h.1
theorem i_wind {S : St} (h : Rel S) {x : Int} (hx : x = 0 ∨ x = 1) : Inv (if S 0 5 = x then S else s_up S 0 5 x) := by
  split
  · exact h.1
  · exact Inv.up (q := 0) h.1 (by omega) (show _ ≤ (1 : Int) by omega)
theorem i_tick {S : St} (h : Rel S) {t : Int} : Inv (if wn t (S 0 6) 100000 = true then s_up S 0 6 t else S) := by
  have i6 := iv_0 h.1 6
  split
  · rename_i hw
    have := wn_t hw
    exact Inv.up (q := 0) h.1 (by omega) (show _ ≤ (100000 : Int) by omega)
  · exact h.1
theorem i_back {S : St} (h : Rel S) {k : Int} : Inv (if (wn k 1 (S 3 0) && stB S k) = true then s_up S 17 k.toNat 0 else S) := by
  split
  · exact Inv.up (q := 17) h.1 (by decide) (show (0 : Int) ≤ 1 by decide)
  · exact h.1
theorem c_so {S : St} (h : Rel S) {k : Int} : ∀ j : Nat, 0 < (if k = 5 then (skO S (-1) (S 3 0).toNat).1 else S) 40 j → 1 ≤ (if k = 5 then (skO S (-1) (S 3 0).toNat).1 else S) 35 ((if k = 5 then (skO S (-1) (S 3 0).toNat).1 else S) 37 j).toNat := by
  split
  · rw [skO_ne _ _ _ (by decide), skO_ne _ _ _ (by decide), skO_ne _ _ _ (by decide)]
    exact rel_so h
  · exact rel_so h
set_option maxHeartbeats 4000000 in
set_option maxRecDepth 100000 in
theorem lc_rule {p : Program} {l : Launch} {e : Env} {s : State} {m : MethodId} {below : List Frame} {meth : Method} {c : Code} {H : Heap} {locs : List Loc} {cells slots b L : Nat} {Q : State → Prop} {xs : Nat → Int32} {ls : Array Slot} {G : Gt} {S : St} {j : Nat} (hK : LwC p l s m c b L xs G) (hR : Rel S) (hj : 5 * j + 5 ≤ L) (hw : wh G S s H locs) (hl : lv_has ls 7 [(0, Value.ref b), (1, Value.ref (G.2.1 0)), (2, Value.ref (G.2.1 25)), (3, Value.ref (G.2.1 44)), (4, Value.int (iI (5 * (j : Int))))]) (hcl : cells + 1 ≤ 1083 ∧ slots + 6 ≤ 10652)
    (kk : ∀ (S' : St) (H : Heap) (locs : List Loc) (ls : Array Slot), Rel S' → wh G S' s H locs → lv_has ls 7 [(0, Value.ref b), (1, Value.ref (G.2.1 0)), (2, Value.ref (G.2.1 25)), (3, Value.ref (G.2.1 44)), (4, Value.int (iI (5 * (j : Int))))] → W p l e room_1 s m #[Value.ref b] below meth c H locs (cells + 1) (slots + 6) Q (F0 m 1017 ls [])) : W p l e room_1 s m #[Value.ref b] below meth c H locs cells slots Q (F0 m 200 ls []) := by
  have hC := hK.1
  have hl0 := hK.2.2.2.2.2.2.2.1
  have hLb := hK.2.2.2.2.2.2.2.2
  refine W.widen (Nat.le_add_right cells 1) (Nat.le_add_right slots 6) ?_
  refine lv_aload_n hC.1 hC.2.1 d_lw_law_200 rfl (lv_at hl 1 rfl) ?_
  refine lv_aload_n hC.1 hC.2.1 d_lw_law_201 rfl (lv_at hl 0 rfl) ?_
  refine lv_iload hC.1 hC.2.1 d_lw_law_202 (lv_at hl 4 rfl) ?_
  refine lv_iconst (v := iI 1) hC.1 hC.2.1 d_lw_law_204 rfl ?_
  refine ir_add hC.1 hC.2.1 d_lw_law_205 ?_
  refine sl_ld hK hw (z := 5 * (j : Int) + 1) (by omega) (by omega) d_lw_law_206 ?_
  refine lv_aload_n hC.1 hC.2.1 d_lw_law_207 rfl (lv_at hl 0 rfl) ?_
  refine lv_iload hC.1 hC.2.1 d_lw_law_208 (lv_at hl 4 rfl) ?_
  refine lv_iconst (v := iI 2) hC.1 hC.2.1 d_lw_law_210 rfl ?_
  refine ir_add hC.1 hC.2.1 d_lw_law_211 ?_
  refine sl_ld hK hw (z := 5 * (j : Int) + 2) (by omega) (by omega) d_lw_law_212 ?_
  refine lv_aload_n hC.1 hC.2.1 d_lw_law_213 rfl (lv_at hl 0 rfl) ?_
  refine lv_iload hC.1 hC.2.1 d_lw_law_214 (lv_at hl 4 rfl) ?_
  refine lv_iconst (v := iI 3) hC.1 hC.2.1 d_lw_law_216 rfl ?_
  refine ir_add hC.1 hC.2.1 d_lw_law_217 ?_
  refine sl_ld hK hw (z := 5 * (j : Int) + 3) (by omega) (by omega) d_lw_law_218 ?_
  refine go_W (ca_Z (As := [Value.int (iI ((xs (5 * (j : Int) + 1).toNat).toInt)), Value.int (iI ((xs (5 * (j : Int) + 2).toNat).toInt)), Value.int (iI ((xs (5 * (j : Int) + 3).toNat).toInt))]) (rest := []) hK hw (c_cr_rule l G S (xs (5 * (j : Int) + 1).toNat).toInt (xs (5 * (j : Int) + 2).toNat).toInt (xs (5 * (j : Int) + 3).toNat).toInt hR.1 (iI_b _) (iI_b _) (iI_b _)) (cv_lw_59 hC rfl rfl (Nat.le_of_ble_eq_true rfl) (Nat.le_of_ble_eq_true rfl)) (by decide) rfl rfl rfl hl.1 rfl (Nat.le_of_ble_eq_true rfl) d_lw_law_219 ⟨hcl.1, hcl.2⟩) hw (fun H locs hw => ?_)
  have ef := e_rule hR (q := (xs (5 * (j : Int) + 1).toNat).toInt) (k := (xs (5 * (j : Int) + 2).toNat).toInt) (v := (xs (5 * (j : Int) + 3).toNat).toInt)
  have hI1 : Inv (if rul S (xs (5 * (j : Int) + 1).toNat).toInt (xs (5 * (j : Int) + 2).toNat).toInt (xs (5 * (j : Int) + 3).toNat).toInt = true then s_up S 10 ((xs (5 * (j : Int) + 1).toNat).toInt * 5 + (xs (5 * (j : Int) + 2).toNat).toInt).toNat (xs (5 * (j : Int) + 3).toNat).toInt else S) := (i_rule hR)
  simp only [] at ef
  obtain ⟨C1, hC1⟩ : ∃ Z : St, Z = if rul S (xs (5 * (j : Int) + 1).toNat).toInt (xs (5 * (j : Int) + 2).toNat).toInt (xs (5 * (j : Int) + 3).toNat).toInt = true then s_up S 10 ((xs (5 * (j : Int) + 1).toNat).toInt * 5 + (xs (5 * (j : Int) + 2).toNat).toInt).toNat (xs (5 * (j : Int) + 3).toNat).toInt else S := ⟨_, rfl⟩
  rw [← hC1] at hw hI1 ef
  obtain ⟨r1, hr1⟩ : ∃ z : Int, z = bI (rul S (xs (5 * (j : Int) + 1).toNat).toInt (xs (5 * (j : Int) + 2).toNat).toInt (xs (5 * (j : Int) + 3).toNat).toInt) := ⟨_, rfl⟩
  rw [← hr1]
  refine lv_aload_n hC.1 hC.2.1 d_lw_law_222 rfl (lv_at hl 2 rfl) ?_
  refine lv_aload_n hC.1 hC.2.1 d_lw_law_223 rfl (lv_at hl 0 rfl) ?_
  refine lv_iload hC.1 hC.2.1 d_lw_law_224 (lv_at hl 4 rfl) ?_
  refine lv_iconst (v := iI 1) hC.1 hC.2.1 d_lw_law_226 rfl ?_
  refine ir_add hC.1 hC.2.1 d_lw_law_227 ?_
  refine sl_ld hK hw (z := 5 * (j : Int) + 1) (by omega) (by omega) d_lw_law_228 ?_
  refine lv_aload_n hC.1 hC.2.1 d_lw_law_229 rfl (lv_at hl 0 rfl) ?_
  refine lv_iload hC.1 hC.2.1 d_lw_law_230 (lv_at hl 4 rfl) ?_
  refine lv_iconst (v := iI 2) hC.1 hC.2.1 d_lw_law_232 rfl ?_
  refine ir_add hC.1 hC.2.1 d_lw_law_233 ?_
  refine sl_ld hK hw (z := 5 * (j : Int) + 2) (by omega) (by omega) d_lw_law_234 ?_
  refine lv_aload_n hC.1 hC.2.1 d_lw_law_235 rfl (lv_at hl 0 rfl) ?_
  refine lv_iload hC.1 hC.2.1 d_lw_law_236 (lv_at hl 4 rfl) ?_
  refine lv_iconst (v := iI 3) hC.1 hC.2.1 d_lw_law_238 rfl ?_
  refine ir_add hC.1 hC.2.1 d_lw_law_239 ?_
  refine sl_ld hK hw (z := 5 * (j : Int) + 3) (by omega) (by omega) d_lw_law_240 ?_
  refine go_W (ca_V (As := [Value.int (iI ((xs (5 * (j : Int) + 1).toNat).toInt)), Value.int (iI ((xs (5 * (j : Int) + 2).toNat).toInt)), Value.int (iI ((xs (5 * (j : Int) + 3).toNat).toInt))]) (rest := [Value.int (iI r1)]) hC hw (c_md_rule l G C1 (xs (5 * (j : Int) + 1).toNat).toInt (xs (5 * (j : Int) + 2).toNat).toInt (xs (5 * (j : Int) + 3).toNat).toInt hI1 (iI_b _) (iI_b _) (iI_b _)) (cv_lw_63 hC rfl rfl (Nat.le_of_ble_eq_true rfl) (Nat.le_of_ble_eq_true rfl)) (by decide) rfl rfl rfl hl.1 rfl (Nat.le_of_ble_eq_true rfl) d_lw_law_241 ⟨hcl.1, hcl.2⟩) hw (fun H locs hw => ?_)
  have he : r1 = bI (mRu (s_up C1 25 0 0) (xs (5 * (j : Int) + 1).toNat).toInt (xs (5 * (j : Int) + 2).toNat).toInt (xs (5 * (j : Int) + 3).toNat).toInt) := (by rw [hr1, ef.1])
  rw [← he]
  refine lv_icmp_eq (tgt := 1017) hC.1 hC.2.1 d_lw_law_244 (by decide) (fun _ => ?_) (fun z => absurd rfl z)
  exact kk _ H locs ls ef.2 hw (lv_sub hl [0, 1, 2, 3, 4] rfl)
set_option maxHeartbeats 4000000 in
set_option maxRecDepth 100000 in
theorem lc_wind {p : Program} {l : Launch} {e : Env} {s : State} {m : MethodId} {below : List Frame} {meth : Method} {c : Code} {H : Heap} {locs : List Loc} {cells slots b L : Nat} {Q : State → Prop} {xs : Nat → Int32} {ls : Array Slot} {G : Gt} {S : St} {j : Nat} (hK : LwC p l s m c b L xs G) (hR : Rel S) (hj : 5 * j + 5 ≤ L) (hw : wh G S s H locs) (hl : lv_has ls 7 [(0, Value.ref b), (1, Value.ref (G.2.1 0)), (2, Value.ref (G.2.1 25)), (3, Value.ref (G.2.1 44)), (4, Value.int (iI (5 * (j : Int))))]) (hcl : cells + 1 ≤ 1083 ∧ slots + 6 ≤ 10652)
    (kk : ∀ (S' : St) (H : Heap) (locs : List Loc) (ls : Array Slot), Rel S' → wh G S' s H locs → lv_has ls 7 [(0, Value.ref b), (1, Value.ref (G.2.1 0)), (2, Value.ref (G.2.1 25)), (3, Value.ref (G.2.1 44)), (4, Value.int (iI (5 * (j : Int))))] → W p l e room_1 s m #[Value.ref b] below meth c H locs (cells + 1) (slots + 6) Q (F0 m 1017 ls [])) : W p l e room_1 s m #[Value.ref b] below meth c H locs cells slots Q (F0 m 249 ls []) := by
  have hC := hK.1
  have hl0 := hK.2.2.2.2.2.2.2.1
  have hLb := hK.2.2.2.2.2.2.2.2
  refine W.widen (Nat.le_add_right cells 1) (Nat.le_add_right slots 6) ?_
  obtain ⟨x, hx, hxe⟩ : ∃ x : Int, (x = 0 ∨ x = 1) ∧ x = (if (xs (5 * (j : Int) + 1).toNat).toInt = 0 then 0 else 1) := ⟨_, (by split <;> simp), rfl⟩
  refine lv_aload_n hC.1 hC.2.1 d_lw_law_249 rfl (lv_at hl 1 rfl) ?_
  refine lv_aload_n hC.1 hC.2.1 d_lw_law_250 rfl (lv_at hl 0 rfl) ?_
  refine lv_iload hC.1 hC.2.1 d_lw_law_251 (lv_at hl 4 rfl) ?_
  refine lv_iconst (v := iI 1) hC.1 hC.2.1 d_lw_law_253 rfl ?_
  refine ir_add hC.1 hC.2.1 d_lw_law_254 ?_
  refine sl_ld hK hw (z := 5 * (j : Int) + 1) (by omega) (by omega) d_lw_law_255 ?_
  have go : W p l e room_1 s m #[Value.ref b] below meth c H locs (cells + 1) (slots + 6) Q (F0 m 264 ls [Value.int (iI x), Value.ref (G.2.1 0)]) → W p l e room_1 s m #[Value.ref b] below meth c H locs (cells + 1) (slots + 6) Q (F0 m 256 ls [Value.int (iI (xs (5 * (j : Int) + 1).toNat).toInt), Value.ref (G.2.1 0)]) := by
    intro k0
    refine ir_if_eq (tgt := 263) hC.1 hC.2.1 d_lw_law_256 (by decide) (iI_b _) (fun z => ?_) (fun z => ?_)
    · rw [if_pos z] at hxe
      refine lv_iconst (v := iI 0) hC.1 hC.2.1 d_lw_law_263 rfl ?_
      rw [hxe] at k0
      exact k0
    · rw [if_neg z] at hxe
      refine lv_iconst (v := iI 1) hC.1 hC.2.1 d_lw_law_259 rfl ?_
      refine lv_goto (tgt := 264) hC.1 hC.2.1 d_lw_law_260 (by decide) ?_
      rw [hxe] at k0
      exact k0
  refine go ?_
  refine go_W (ca_V (As := [Value.int (iI x)]) (rest := []) hC hw (c_cr_wind l G S x hR.1 hx) (cv_lw_64 hC rfl rfl (Nat.le_of_ble_eq_true rfl) (Nat.le_of_ble_eq_true rfl)) (by decide) rfl rfl rfl hl.1 rfl (Nat.le_of_ble_eq_true rfl) d_lw_law_264 ⟨hcl.1, hcl.2⟩) hw (fun H locs hw => ?_)
  have ef := e_wind hR hx
  have hI1 : Inv (if S 0 5 = x then S else s_up S 0 5 x) := (i_wind hR hx)
  simp only [] at ef
  obtain ⟨C1, hC1⟩ : ∃ Z : St, Z = if S 0 5 = x then S else s_up S 0 5 x := ⟨_, rfl⟩
  rw [← hC1] at hw hI1 ef
  obtain ⟨r1, hr1⟩ : ∃ z : Int, z = if S 0 5 = x then 0 else 1 := ⟨_, rfl⟩
  rw [← hr1]
  refine lv_aload_n hC.1 hC.2.1 d_lw_law_267 rfl (lv_at hl 2 rfl) ?_
  refine lv_aload_n hC.1 hC.2.1 d_lw_law_268 rfl (lv_at hl 0 rfl) ?_
  refine lv_iload hC.1 hC.2.1 d_lw_law_269 (lv_at hl 4 rfl) ?_
  refine lv_iconst (v := iI 1) hC.1 hC.2.1 d_lw_law_271 rfl ?_
  refine ir_add hC.1 hC.2.1 d_lw_law_272 ?_
  refine sl_ld hK hw (z := 5 * (j : Int) + 1) (by omega) (by omega) d_lw_law_273 ?_
  have go2 : W p l e room_1 s m #[Value.ref b] below meth c H locs (cells + 1) (slots + 6) Q (F0 m 282 ls [Value.int (iI x), Value.ref (G.2.1 25), Value.int (iI r1)]) → W p l e room_1 s m #[Value.ref b] below meth c H locs (cells + 1) (slots + 6) Q (F0 m 274 ls [Value.int (iI (xs (5 * (j : Int) + 1).toNat).toInt), Value.ref (G.2.1 25), Value.int (iI r1)]) := by
    intro k0
    refine ir_if_eq (tgt := 281) hC.1 hC.2.1 d_lw_law_274 (by decide) (iI_b _) (fun z => ?_) (fun z => ?_)
    · rw [if_pos z] at hxe
      refine lv_iconst (v := iI 0) hC.1 hC.2.1 d_lw_law_281 rfl ?_
      rw [hxe] at k0
      exact k0
    · rw [if_neg z] at hxe
      refine lv_iconst (v := iI 1) hC.1 hC.2.1 d_lw_law_277 rfl ?_
      refine lv_goto (tgt := 282) hC.1 hC.2.1 d_lw_law_278 (by decide) ?_
      rw [hxe] at k0
      exact k0
  refine go2 ?_
  refine go_W (ca_V (As := [Value.int (iI x)]) (rest := [Value.int (iI r1)]) hC hw (c_md_wind l G C1 x hI1 hx) (cv_lw_68 hC rfl rfl (Nat.le_of_ble_eq_true rfl) (Nat.le_of_ble_eq_true rfl)) (by decide) rfl rfl rfl hl.1 rfl (Nat.le_of_ble_eq_true rfl) d_lw_law_282 ⟨hcl.1, hcl.2⟩) hw (fun H locs hw => ?_)
  have he : r1 = if (s_up C1 25 0 0) 25 14 = x then 0 else 1 := (by rw [hr1, ef.1])
  rw [← he]
  refine lv_icmp_eq (tgt := 1017) hC.1 hC.2.1 d_lw_law_285 (by decide) (fun _ => ?_) (fun z => absurd rfl z)
  exact kk _ H locs ls ef.2 hw (lv_sub hl [0, 1, 2, 3, 4] rfl)
set_option maxHeartbeats 4000000 in
set_option maxRecDepth 100000 in
theorem lc_back {p : Program} {l : Launch} {e : Env} {s : State} {m : MethodId} {below : List Frame} {meth : Method} {c : Code} {H : Heap} {locs : List Loc} {cells slots b L : Nat} {Q : State → Prop} {xs : Nat → Int32} {ls : Array Slot} {G : Gt} {S : St} {j : Nat} (hK : LwC p l s m c b L xs G) (hR : Rel S) (hj : 5 * j + 5 ≤ L) (hw : wh G S s H locs) (hl : lv_has ls 7 [(0, Value.ref b), (1, Value.ref (G.2.1 0)), (2, Value.ref (G.2.1 25)), (3, Value.ref (G.2.1 44)), (4, Value.int (iI (5 * (j : Int))))]) (hcl : cells + 1 ≤ 1083 ∧ slots + 6 ≤ 10652)
    (kk : ∀ (S' : St) (H : Heap) (locs : List Loc) (ls : Array Slot), Rel S' → wh G S' s H locs → lv_has ls 7 [(0, Value.ref b), (1, Value.ref (G.2.1 0)), (2, Value.ref (G.2.1 25)), (3, Value.ref (G.2.1 44)), (4, Value.int (iI (5 * (j : Int))))] → W p l e room_1 s m #[Value.ref b] below meth c H locs (cells + 1) (slots + 6) Q (F0 m 1017 ls [])) : W p l e room_1 s m #[Value.ref b] below meth c H locs cells slots Q (F0 m 714 ls []) := by
  have hC := hK.1
  have hl0 := hK.2.2.2.2.2.2.2.1
  have hLb := hK.2.2.2.2.2.2.2.2
  refine W.widen (Nat.le_add_right cells 1) (Nat.le_add_right slots 6) ?_
  refine lv_aload_n hC.1 hC.2.1 d_lw_law_714 rfl (lv_at hl 1 rfl) ?_
  refine lv_aload_n hC.1 hC.2.1 d_lw_law_715 rfl (lv_at hl 0 rfl) ?_
  refine lv_iload hC.1 hC.2.1 d_lw_law_716 (lv_at hl 4 rfl) ?_
  refine lv_iconst (v := iI 1) hC.1 hC.2.1 d_lw_law_718 rfl ?_
  refine ir_add hC.1 hC.2.1 d_lw_law_719 ?_
  refine sl_ld hK hw (z := 5 * (j : Int) + 1) (by omega) (by omega) d_lw_law_720 ?_
  refine go_W (ca_V (As := [Value.int (iI ((xs (5 * (j : Int) + 1).toNat).toInt))]) (rest := []) hC hw (c_cr_back l G S (xs (5 * (j : Int) + 1).toNat).toInt hR.1 (iI_b _)) (cv_lw_86 hC rfl rfl (Nat.le_of_ble_eq_true rfl) (Nat.le_of_ble_eq_true rfl)) (by decide) rfl rfl rfl hl.1 rfl (Nat.le_of_ble_eq_true rfl) d_lw_law_721 ⟨hcl.1, hcl.2⟩) hw (fun H locs hw => ?_)
  have ef := e_back hR (k := (xs (5 * (j : Int) + 1).toNat).toInt)
  have hI1 : Inv (if (wn (xs (5 * (j : Int) + 1).toNat).toInt 1 (S 3 0) && stB S (xs (5 * (j : Int) + 1).toNat).toInt) = true then s_up S 17 (xs (5 * (j : Int) + 1).toNat).toInt.toNat 0 else S) := (i_back hR)
  simp only [] at ef
  obtain ⟨C1, hC1⟩ : ∃ Z : St, Z = if (wn (xs (5 * (j : Int) + 1).toNat).toInt 1 (S 3 0) && stB S (xs (5 * (j : Int) + 1).toNat).toInt) = true then s_up S 17 (xs (5 * (j : Int) + 1).toNat).toInt.toNat 0 else S := ⟨_, rfl⟩
  rw [← hC1] at hw hI1 ef
  obtain ⟨r1, hr1⟩ : ∃ z : Int, z = bI (wn (xs (5 * (j : Int) + 1).toNat).toInt 1 (S 3 0) && stB S (xs (5 * (j : Int) + 1).toNat).toInt) := ⟨_, rfl⟩
  rw [← hr1]
  refine lv_aload_n hC.1 hC.2.1 d_lw_law_724 rfl (lv_at hl 2 rfl) ?_
  refine lv_aload_n hC.1 hC.2.1 d_lw_law_725 rfl (lv_at hl 0 rfl) ?_
  refine lv_iload hC.1 hC.2.1 d_lw_law_726 (lv_at hl 4 rfl) ?_
  refine lv_iconst (v := iI 1) hC.1 hC.2.1 d_lw_law_728 rfl ?_
  refine ir_add hC.1 hC.2.1 d_lw_law_729 ?_
  refine sl_ld hK hw (z := 5 * (j : Int) + 1) (by omega) (by omega) d_lw_law_730 ?_
  refine go_W (ca_V (As := [Value.int (iI ((xs (5 * (j : Int) + 1).toNat).toInt))]) (rest := [Value.int (iI r1)]) hC hw (c_md_back l G C1 (xs (5 * (j : Int) + 1).toNat).toInt hI1 (iI_b _)) (cv_lw_90 hC rfl rfl (Nat.le_of_ble_eq_true rfl) (Nat.le_of_ble_eq_true rfl)) (by decide) rfl rfl rfl hl.1 rfl (Nat.le_of_ble_eq_true rfl) d_lw_law_731 ⟨hcl.1, hcl.2⟩) hw (fun H locs hw => ?_)
  have he : r1 = bI (mBk (s_up C1 25 0 0) (xs (5 * (j : Int) + 1).toNat).toInt) := (by rw [hr1, ef.1])
  rw [← he]
  refine lv_icmp_eq (tgt := 1017) hC.1 hC.2.1 d_lw_law_734 (by decide) (fun _ => ?_) (fun z => absurd rfl z)
  exact kk _ H locs ls ef.2 hw (lv_sub hl [0, 1, 2, 3, 4] rfl)
set_option maxHeartbeats 4000000 in
set_option maxRecDepth 100000 in
theorem lc_tick {p : Program} {l : Launch} {e : Env} {s : State} {m : MethodId} {below : List Frame} {meth : Method} {c : Code} {H : Heap} {locs : List Loc} {cells slots b L : Nat} {Q : State → Prop} {xs : Nat → Int32} {ls : Array Slot} {G : Gt} {S : St} {j : Nat} (hK : LwC p l s m c b L xs G) (hR : Rel S) (hj : 5 * j + 5 ≤ L) (hw : wh G S s H locs) (hl : lv_has ls 7 [(0, Value.ref b), (1, Value.ref (G.2.1 0)), (2, Value.ref (G.2.1 25)), (3, Value.ref (G.2.1 44)), (4, Value.int (iI (5 * (j : Int))))]) (hcl : cells + 1 ≤ 1083 ∧ slots + 6 ≤ 10652)
    (kk : ∀ (S' : St) (H : Heap) (locs : List Loc) (ls : Array Slot), Rel S' → wh G S' s H locs → lv_has ls 7 [(0, Value.ref b), (1, Value.ref (G.2.1 0)), (2, Value.ref (G.2.1 25)), (3, Value.ref (G.2.1 44)), (4, Value.int (iI (5 * (j : Int))))] → W p l e room_1 s m #[Value.ref b] below meth c H locs (cells + 1) (slots + 6) Q (F0 m 1017 ls [])) : W p l e room_1 s m #[Value.ref b] below meth c H locs cells slots Q (F0 m 819 ls []) := by
  have hC := hK.1
  have hl0 := hK.2.2.2.2.2.2.2.1
  have hLb := hK.2.2.2.2.2.2.2.2
  refine W.widen (Nat.le_add_right cells 1) (Nat.le_add_right slots 6) ?_
  refine lv_aload_n hC.1 hC.2.1 d_lw_law_819 rfl (lv_at hl 1 rfl) ?_
  refine lv_aload_n hC.1 hC.2.1 d_lw_law_820 rfl (lv_at hl 0 rfl) ?_
  refine lv_iload hC.1 hC.2.1 d_lw_law_821 (lv_at hl 4 rfl) ?_
  refine lv_iconst (v := iI 1) hC.1 hC.2.1 d_lw_law_823 rfl ?_
  refine ir_add hC.1 hC.2.1 d_lw_law_824 ?_
  refine sl_ld hK hw (z := 5 * (j : Int) + 1) (by omega) (by omega) d_lw_law_825 ?_
  refine go_W (ca_V (As := [Value.int (iI ((xs (5 * (j : Int) + 1).toNat).toInt))]) (rest := []) hC hw (c_cr_tick l G S (xs (5 * (j : Int) + 1).toNat).toInt hR.1 (iI_b _)) (cv_lw_94 hC rfl rfl (Nat.le_of_ble_eq_true rfl) (Nat.le_of_ble_eq_true rfl)) (by decide) rfl rfl rfl hl.1 rfl (Nat.le_of_ble_eq_true rfl) d_lw_law_826 ⟨hcl.1, hcl.2⟩) hw (fun H locs hw => ?_)
  have ef := e_tick hR (xs (5 * (j : Int) + 1).toNat).toInt
  have hI1 : Inv (if wn (xs (5 * (j : Int) + 1).toNat).toInt (S 0 6) 100000 = true then s_up S 0 6 (xs (5 * (j : Int) + 1).toNat).toInt else S) := (i_tick hR)
  simp only [] at ef
  obtain ⟨C1, hC1⟩ : ∃ Z : St, Z = if wn (xs (5 * (j : Int) + 1).toNat).toInt (S 0 6) 100000 = true then s_up S 0 6 (xs (5 * (j : Int) + 1).toNat).toInt else S := ⟨_, rfl⟩
  rw [← hC1] at hw hI1 ef
  obtain ⟨r1, hr1⟩ : ∃ z : Int, z = if wn (xs (5 * (j : Int) + 1).toNat).toInt (S 0 6) 100000 = true then 1 else 0 := ⟨_, rfl⟩
  rw [← hr1]
  refine lv_aload_n hC.1 hC.2.1 d_lw_law_829 rfl (lv_at hl 2 rfl) ?_
  refine lv_aload_n hC.1 hC.2.1 d_lw_law_830 rfl (lv_at hl 0 rfl) ?_
  refine lv_iload hC.1 hC.2.1 d_lw_law_831 (lv_at hl 4 rfl) ?_
  refine lv_iconst (v := iI 1) hC.1 hC.2.1 d_lw_law_833 rfl ?_
  refine ir_add hC.1 hC.2.1 d_lw_law_834 ?_
  refine sl_ld hK hw (z := 5 * (j : Int) + 1) (by omega) (by omega) d_lw_law_835 ?_
  refine go_W (ca_V (As := [Value.int (iI ((xs (5 * (j : Int) + 1).toNat).toInt))]) (rest := [Value.int (iI r1)]) hC hw (c_md_tick l G C1 (xs (5 * (j : Int) + 1).toNat).toInt hI1 (iI_b _)) (cv_lw_97 hC rfl rfl (Nat.le_of_ble_eq_true rfl) (Nat.le_of_ble_eq_true rfl)) (by decide) rfl rfl rfl hl.1 rfl (Nat.le_of_ble_eq_true rfl) d_lw_law_836 ⟨hcl.1, hcl.2⟩) hw (fun H locs hw => ?_)
  have he : r1 = bI (wn (xs (5 * (j : Int) + 1).toNat).toInt ((s_up C1 25 0 0) 25 15) 100000) := (by rw [hr1, ef.1]; cases wn (xs (5 * (j : Int) + 1).toNat).toInt (S 0 6) 100000 <;> rfl)
  rw [← he]
  refine lv_icmp_eq (tgt := 1017) hC.1 hC.2.1 d_lw_law_839 (by decide) (fun _ => ?_) (fun z => absurd rfl z)
  exact kk _ H locs ls ef.2 hw (lv_sub hl [0, 1, 2, 3, 4] rfl)
set_option maxHeartbeats 4000000 in
set_option maxRecDepth 100000 in
theorem lc_count {p : Program} {l : Launch} {e : Env} {s : State} {m : MethodId} {below : List Frame} {meth : Method} {c : Code} {H : Heap} {locs : List Loc} {cells slots b L : Nat} {Q : State → Prop} {xs : Nat → Int32} {ls : Array Slot} {G : Gt} {S : St} {j : Nat} (hK : LwC p l s m c b L xs G) (hR : Rel S) (hj : 5 * j + 5 ≤ L) (hw : wh G S s H locs) (hl : lv_has ls 7 [(0, Value.ref b), (1, Value.ref (G.2.1 0)), (2, Value.ref (G.2.1 25)), (3, Value.ref (G.2.1 44)), (4, Value.int (iI (5 * (j : Int))))]) (hcl : cells + 1 ≤ 1083 ∧ slots + 6 ≤ 10652)
    (kk : ∀ (S' : St) (H : Heap) (locs : List Loc) (ls : Array Slot), Rel S' → wh G S' s H locs → lv_has ls 7 [(0, Value.ref b), (1, Value.ref (G.2.1 0)), (2, Value.ref (G.2.1 25)), (3, Value.ref (G.2.1 44)), (4, Value.int (iI (5 * (j : Int))))] → W p l e room_1 s m #[Value.ref b] below meth c H locs (cells + 1) (slots + 6) Q (F0 m 1017 ls [])) : W p l e room_1 s m #[Value.ref b] below meth c H locs cells slots Q (F0 m 992 ls []) := by
  have hC := hK.1
  have hl0 := hK.2.2.2.2.2.2.2.1
  have hLb := hK.2.2.2.2.2.2.2.2
  refine W.widen (Nat.le_add_right cells 1) (Nat.le_add_right slots 6) ?_
  refine lv_aload_n hC.1 hC.2.1 d_lw_law_992 rfl (lv_at hl 1 rfl) ?_
  refine lv_aload_n hC.1 hC.2.1 d_lw_law_993 rfl (lv_at hl 0 rfl) ?_
  refine lv_iload hC.1 hC.2.1 d_lw_law_994 (lv_at hl 4 rfl) ?_
  refine lv_iconst (v := iI 1) hC.1 hC.2.1 d_lw_law_996 rfl ?_
  refine ir_add hC.1 hC.2.1 d_lw_law_997 ?_
  refine sl_ld hK hw (z := 5 * (j : Int) + 1) (by omega) (by omega) d_lw_law_998 ?_
  refine go_W (ca_V (As := [Value.int (iI ((xs (5 * (j : Int) + 1).toNat).toInt))]) (rest := []) hC hw (c_cr_count l G S (xs (5 * (j : Int) + 1).toNat).toInt hR.1 (iI_b _)) (cv_lw_104 hC rfl rfl (Nat.le_of_ble_eq_true rfl) (Nat.le_of_ble_eq_true rfl)) (by decide) rfl rfl rfl hl.1 rfl (Nat.le_of_ble_eq_true rfl) d_lw_law_999 ⟨hcl.1, hcl.2⟩) hw (fun H locs hw => ?_)
  have ef := e_count hR (k := (xs (5 * (j : Int) + 1).toNat).toInt)
  have so1 := c_so hR (k := (xs (5 * (j : Int) + 1).toNat).toInt)
  have hI1 : Inv (if (xs (5 * (j : Int) + 1).toNat).toInt = 5 then (skO S (-1) (S 3 0).toNat).1 else S) := ef.2.1
  simp only [] at ef
  obtain ⟨C1, hC1⟩ : ∃ Z : St, Z = if (xs (5 * (j : Int) + 1).toNat).toInt = 5 then (skO S (-1) (S 3 0).toNat).1 else S := ⟨_, rfl⟩
  rw [← hC1] at hw hI1 ef so1
  obtain ⟨r1, hr1⟩ : ∃ z : Int, z = cnt S (xs (5 * (j : Int) + 1).toNat).toInt := ⟨_, rfl⟩
  rw [← hr1]
  refine lv_aload_n hC.1 hC.2.1 d_lw_law_1002 rfl (lv_at hl 2 rfl) ?_
  refine lv_aload_n hC.1 hC.2.1 d_lw_law_1003 rfl (lv_at hl 0 rfl) ?_
  refine lv_iload hC.1 hC.2.1 d_lw_law_1004 (lv_at hl 4 rfl) ?_
  refine lv_iconst (v := iI 1) hC.1 hC.2.1 d_lw_law_1006 rfl ?_
  refine ir_add hC.1 hC.2.1 d_lw_law_1007 ?_
  refine sl_ld hK hw (z := 5 * (j : Int) + 1) (by omega) (by omega) d_lw_law_1008 ?_
  refine go_W (ca_V (As := [Value.int (iI ((xs (5 * (j : Int) + 1).toNat).toInt))]) (rest := [Value.int (iI r1)]) hC hw (c_md_count l G C1 (xs (5 * (j : Int) + 1).toNat).toInt hI1 (iI_b _) so1) (cv_lw_108 hC rfl rfl (Nat.le_of_ble_eq_true rfl) (Nat.le_of_ble_eq_true rfl)) (by decide) rfl rfl rfl hl.1 rfl (Nat.le_of_ble_eq_true rfl) d_lw_law_1009 ⟨hcl.1, hcl.2⟩) hw (fun H locs hw => ?_)
  have he : r1 = mCn (s_up C1 25 0 0) (xs (5 * (j : Int) + 1).toNat).toInt := (by rw [hr1, ef.1])
  rw [← he]
  refine lv_icmp_eq (tgt := 1017) hC.1 hC.2.1 d_lw_law_1012 (by decide) (fun _ => ?_) (fun z => absurd rfl z)
  exact kk _ H locs ls ef.2.2 hw (lv_sub hl [0, 1, 2, 3, 4] rfl)

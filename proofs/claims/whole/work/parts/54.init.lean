/-! the constructors: each lays its cells from its object on -/
def w_pc (G : Gt) (h0 : Nat) : va_W := (h0, .inr (1, [.int (iI 0), .ref (h0 + 1), .ref (h0 + 2), .ref (h0 + 3), .ref (h0 + 4), .ref (h0 + 5), .ref (h0 + 6), .ref (h0 + 7), .ref (h0 + 8)])) :: (([] : va_W) ++ [(h0 + 1, .inl (G.2.2.1 0, 12, .inl (fun _ => iI 0)))] ++ [(h0 + 2, .inl (G.2.2.1 0, 12, .inl (fun _ => iI 0)))] ++ [(h0 + 3, .inl (G.2.2.1 0, 12, .inl (fun _ => iI 0)))] ++ [(h0 + 4, .inl (G.2.2.1 0, 12, .inl (fun _ => iI 0)))] ++ [(h0 + 5, .inl (G.2.2.1 0, 60, .inl (fun _ => iI 0)))] ++ [(h0 + 6, .inl (G.2.2.1 0, 12, .inl (fun _ => iI 0)))] ++ [(h0 + 7, .inl (G.2.2.1 0, 48, .inl (fun _ => iI 0)))] ++ [(h0 + 8, .inl (G.2.2.1 0, 48, .inl (fun _ => iI 0)))])
theorem ln_pc (G : Gt) (h0 : Nat) : (w_pc G h0).length = 9 := by simp [w_pc]
theorem sq_pc (G : Gt) (h0 : Nat) : ∀ (j : Nat) (q : Nat × va_E), (w_pc G h0)[j]? = some q → q.1 = h0 + j := by
  unfold w_pc
  refine sq_cons ?_
  refine sq_app (n := h0 + 8) ?_ (by simp [List.length_append] <;> omega) sq_one
  refine sq_app (n := h0 + 7) ?_ (by simp [List.length_append] <;> omega) sq_one
  refine sq_app (n := h0 + 6) ?_ (by simp [List.length_append] <;> omega) sq_one
  refine sq_app (n := h0 + 5) ?_ (by simp [List.length_append] <;> omega) sq_one
  refine sq_app (n := h0 + 4) ?_ (by simp [List.length_append] <;> omega) sq_one
  refine sq_app (n := h0 + 3) ?_ (by simp [List.length_append] <;> omega) sq_one
  refine sq_app (n := h0 + 2) ?_ (by simp [List.length_append] <;> omega) sq_one
  refine sq_app (n := h0 + 1) ?_ (by simp [List.length_append] <;> omega) sq_one
  exact sq_nil
set_option maxHeartbeats 4000000 in
set_option maxRecDepth 100000 in
theorem c_pc_init (l : Launch) (G : Gt) (h0 : Nat) : Met l y_pc_init [.code y_pc_init b_pc_init 1 none] { frames := 1, cells := 8, slots := 216, locals := 12 } (va_Pc [.ref h0] (fun U => bu G h0 (.inr (1, [.int (iI 0), .null, .null, .null, .null, .null, .null, .null, .null])) U)) (qB G h0 (w_pc G h0)) 8 216 (fun q => h0 ≤ q) := by
  refine bt_of (by decide +kernel) rfl ?_
  intro p e s m below meth c ls hC hr hlk hin hw hl
  have hw : cwd G h0 ((h0, .inr (1, [.int (iI 0), .null, .null, .null, .null, .null, .null, .null, .null])) :: ([] : va_W)) s s.heap [] := hw
  refine lv_aload_n hC.1 hC.2.1 d_pc_init_0 rfl (lv_at hl 0 rfl) ?_
  refine bn_obj hC tw_26 hl.1 (Nat.le_of_ble_eq_true rfl) (Nat.le_of_ble_eq_true rfl) d_pc_init_1 ?_
  refine lv_aload_n hC.1 hC.2.1 d_pc_init_4 rfl (lv_at hl 0 rfl) ?_
  refine lv_iconst (v := iI 0) hC.1 hC.2.1 d_pc_init_5 rfl ?_
  refine bn_put (fs2 := [.int (iI 0), .null, .null, .null, .null, .null, .null, .null, .null]) hC in_pc ty_pc ty_pc_ok nm_pc hw rfl 0 (by decide) tw_27 rfl rfl rfl (Nat.le_of_ble_eq_true rfl) rfl d_pc_init_6 (fun H locs hw => ?_)
  refine lv_aload_n hC.1 hC.2.1 d_pc_init_9 rfl (lv_at hl 0 rfl) ?_
  refine lv_bipush (v := iI 12) hC.1 hC.2.1 d_pc_init_10 (by decide +kernel) ?_
  refine bm_int hC hw (z := 12) (N := 12) (by decide) (by decide) rfl (Nat.le_of_ble_eq_true rfl) (Nat.le_of_ble_eq_true rfl) (h0 + 1) rfl d_pc_init_12 (fun H hw => ?_)
  refine bn_putF (fs2 := [.int (iI 0), .ref (h0 + 1), .null, .null, .null, .null, .null, .null, .null]) hC hin in_pc ty_pc ty_pc_ok nm_pc hw rfl 1 (by decide) tw_29 rfl rfl rfl rfl (Nat.le_of_ble_eq_true rfl) rfl d_pc_init_14 (fun H locs hw => ?_)
  refine lv_aload_n hC.1 hC.2.1 d_pc_init_17 rfl (lv_at hl 0 rfl) ?_
  refine lv_bipush (v := iI 12) hC.1 hC.2.1 d_pc_init_18 (by decide +kernel) ?_
  refine bm_int hC hw (z := 12) (N := 12) (by decide) (by decide) rfl (Nat.le_of_ble_eq_true rfl) (Nat.le_of_ble_eq_true rfl) (h0 + 2) rfl d_pc_init_20 (fun H hw => ?_)
  refine bn_putF (fs2 := [.int (iI 0), .ref (h0 + 1), .ref (h0 + 2), .null, .null, .null, .null, .null, .null]) hC hin in_pc ty_pc ty_pc_ok nm_pc hw rfl 2 (by decide) tw_31 rfl rfl rfl rfl (Nat.le_of_ble_eq_true rfl) rfl d_pc_init_22 (fun H locs hw => ?_)
  refine lv_aload_n hC.1 hC.2.1 d_pc_init_25 rfl (lv_at hl 0 rfl) ?_
  refine lv_bipush (v := iI 12) hC.1 hC.2.1 d_pc_init_26 (by decide +kernel) ?_
  refine bm_int hC hw (z := 12) (N := 12) (by decide) (by decide) rfl (Nat.le_of_ble_eq_true rfl) (Nat.le_of_ble_eq_true rfl) (h0 + 3) rfl d_pc_init_28 (fun H hw => ?_)
  refine bn_putF (fs2 := [.int (iI 0), .ref (h0 + 1), .ref (h0 + 2), .ref (h0 + 3), .null, .null, .null, .null, .null]) hC hin in_pc ty_pc ty_pc_ok nm_pc hw rfl 3 (by decide) tw_33 rfl rfl rfl rfl (Nat.le_of_ble_eq_true rfl) rfl d_pc_init_30 (fun H locs hw => ?_)
  refine lv_aload_n hC.1 hC.2.1 d_pc_init_33 rfl (lv_at hl 0 rfl) ?_
  refine lv_bipush (v := iI 12) hC.1 hC.2.1 d_pc_init_34 (by decide +kernel) ?_
  refine bm_int hC hw (z := 12) (N := 12) (by decide) (by decide) rfl (Nat.le_of_ble_eq_true rfl) (Nat.le_of_ble_eq_true rfl) (h0 + 4) rfl d_pc_init_36 (fun H hw => ?_)
  refine bn_putF (fs2 := [.int (iI 0), .ref (h0 + 1), .ref (h0 + 2), .ref (h0 + 3), .ref (h0 + 4), .null, .null, .null, .null]) hC hin in_pc ty_pc ty_pc_ok nm_pc hw rfl 4 (by decide) tw_35 rfl rfl rfl rfl (Nat.le_of_ble_eq_true rfl) rfl d_pc_init_38 (fun H locs hw => ?_)
  refine lv_aload_n hC.1 hC.2.1 d_pc_init_41 rfl (lv_at hl 0 rfl) ?_
  refine lv_bipush (v := iI 60) hC.1 hC.2.1 d_pc_init_42 (by decide +kernel) ?_
  refine bm_int hC hw (z := 60) (N := 60) (by decide) (by decide) rfl (Nat.le_of_ble_eq_true rfl) (Nat.le_of_ble_eq_true rfl) (h0 + 5) rfl d_pc_init_44 (fun H hw => ?_)
  refine bn_putF (fs2 := [.int (iI 0), .ref (h0 + 1), .ref (h0 + 2), .ref (h0 + 3), .ref (h0 + 4), .ref (h0 + 5), .null, .null, .null]) hC hin in_pc ty_pc ty_pc_ok nm_pc hw rfl 5 (by decide) tw_37 rfl rfl rfl rfl (Nat.le_of_ble_eq_true rfl) rfl d_pc_init_46 (fun H locs hw => ?_)
  refine lv_aload_n hC.1 hC.2.1 d_pc_init_49 rfl (lv_at hl 0 rfl) ?_
  refine lv_bipush (v := iI 12) hC.1 hC.2.1 d_pc_init_50 (by decide +kernel) ?_
  refine bm_int hC hw (z := 12) (N := 12) (by decide) (by decide) rfl (Nat.le_of_ble_eq_true rfl) (Nat.le_of_ble_eq_true rfl) (h0 + 6) rfl d_pc_init_52 (fun H hw => ?_)
  refine bn_putF (fs2 := [.int (iI 0), .ref (h0 + 1), .ref (h0 + 2), .ref (h0 + 3), .ref (h0 + 4), .ref (h0 + 5), .ref (h0 + 6), .null, .null]) hC hin in_pc ty_pc ty_pc_ok nm_pc hw rfl 6 (by decide) tw_38 rfl rfl rfl rfl (Nat.le_of_ble_eq_true rfl) rfl d_pc_init_54 (fun H locs hw => ?_)
  refine lv_aload_n hC.1 hC.2.1 d_pc_init_57 rfl (lv_at hl 0 rfl) ?_
  refine lv_bipush (v := iI 48) hC.1 hC.2.1 d_pc_init_58 (by decide +kernel) ?_
  refine bm_int hC hw (z := 48) (N := 48) (by decide) (by decide) rfl (Nat.le_of_ble_eq_true rfl) (Nat.le_of_ble_eq_true rfl) (h0 + 7) rfl d_pc_init_60 (fun H hw => ?_)
  refine bn_putF (fs2 := [.int (iI 0), .ref (h0 + 1), .ref (h0 + 2), .ref (h0 + 3), .ref (h0 + 4), .ref (h0 + 5), .ref (h0 + 6), .ref (h0 + 7), .null]) hC hin in_pc ty_pc ty_pc_ok nm_pc hw rfl 7 (by decide) tw_40 rfl rfl rfl rfl (Nat.le_of_ble_eq_true rfl) rfl d_pc_init_62 (fun H locs hw => ?_)
  refine lv_aload_n hC.1 hC.2.1 d_pc_init_65 rfl (lv_at hl 0 rfl) ?_
  refine lv_bipush (v := iI 48) hC.1 hC.2.1 d_pc_init_66 (by decide +kernel) ?_
  refine bm_int hC hw (z := 48) (N := 48) (by decide) (by decide) rfl (Nat.le_of_ble_eq_true rfl) (Nat.le_of_ble_eq_true rfl) (h0 + 8) rfl d_pc_init_68 (fun H hw => ?_)
  refine bn_putF (fs2 := [.int (iI 0), .ref (h0 + 1), .ref (h0 + 2), .ref (h0 + 3), .ref (h0 + 4), .ref (h0 + 5), .ref (h0 + 6), .ref (h0 + 7), .ref (h0 + 8)]) hC hin in_pc ty_pc ty_pc_ok nm_pc hw rfl 8 (by decide) tw_41 rfl rfl rfl rfl (Nat.le_of_ble_eq_true rfl) rfl d_pc_init_70 (fun H locs hw => ?_)
  exact rt_B hC hr hlk hw rfl ⟨Nat.le_of_ble_eq_true rfl, Nat.le_of_ble_eq_true rfl⟩ d_pc_init_73
def w_sh (G : Gt) (h0 : Nat) : va_W := (h0, .inr (2, [.int (iI 0), .ref (h0 + 1), .ref (h0 + 2), .ref (h0 + 3)])) :: (([] : va_W) ++ [(h0 + 1, .inl (G.2.2.1 0, 12, .inl (fun _ => iI 0)))] ++ [(h0 + 2, .inl (G.2.2.1 0, 12, .inl (fun _ => iI 0)))] ++ [(h0 + 3, .inl (G.2.2.1 0, 12, .inl (fun _ => iI 0)))])
theorem ln_sh (G : Gt) (h0 : Nat) : (w_sh G h0).length = 4 := by simp [w_sh, ln_pc]
theorem sq_sh (G : Gt) (h0 : Nat) : ∀ (j : Nat) (q : Nat × va_E), (w_sh G h0)[j]? = some q → q.1 = h0 + j := by
  unfold w_sh
  refine sq_cons ?_
  refine sq_app (n := h0 + 3) ?_ (by simp [List.length_append, ln_pc] <;> omega) sq_one
  refine sq_app (n := h0 + 2) ?_ (by simp [List.length_append, ln_pc] <;> omega) sq_one
  refine sq_app (n := h0 + 1) ?_ (by simp [List.length_append, ln_pc] <;> omega) sq_one
  exact sq_nil
set_option maxHeartbeats 4000000 in
set_option maxRecDepth 100000 in
theorem c_sh_init (l : Launch) (G : Gt) (h0 : Nat) : Met l y_sh_init [.code y_sh_init b_sh_init 1 none] { frames := 1, cells := 3, slots := 36, locals := 12 } (va_Pc [.ref h0] (fun U => bu G h0 (.inr (2, [.int (iI 0), .null, .null, .null])) U)) (qB G h0 (w_sh G h0)) 3 36 (fun q => h0 ≤ q) := by
  refine bt_of (by decide +kernel) rfl ?_
  intro p e s m below meth c ls hC hr hlk hin hw hl
  have hw : cwd G h0 ((h0, .inr (2, [.int (iI 0), .null, .null, .null])) :: ([] : va_W)) s s.heap [] := hw
  refine lv_aload_n hC.1 hC.2.1 d_sh_init_0 rfl (lv_at hl 0 rfl) ?_
  refine bn_obj hC tw_67 hl.1 (Nat.le_of_ble_eq_true rfl) (Nat.le_of_ble_eq_true rfl) d_sh_init_1 ?_
  refine lv_aload_n hC.1 hC.2.1 d_sh_init_4 rfl (lv_at hl 0 rfl) ?_
  refine lv_iconst (v := iI 0) hC.1 hC.2.1 d_sh_init_5 rfl ?_
  refine bn_put (fs2 := [.int (iI 0), .null, .null, .null]) hC in_sh ty_sh ty_sh_ok nm_sh hw rfl 0 (by decide) tw_68 rfl rfl rfl (Nat.le_of_ble_eq_true rfl) rfl d_sh_init_6 (fun H locs hw => ?_)
  refine lv_aload_n hC.1 hC.2.1 d_sh_init_9 rfl (lv_at hl 0 rfl) ?_
  refine lv_bipush (v := iI 12) hC.1 hC.2.1 d_sh_init_10 (by decide +kernel) ?_
  refine bm_int hC hw (z := 12) (N := 12) (by decide) (by decide) rfl (Nat.le_of_ble_eq_true rfl) (Nat.le_of_ble_eq_true rfl) (h0 + 1) rfl d_sh_init_12 (fun H hw => ?_)
  refine bn_putF (fs2 := [.int (iI 0), .ref (h0 + 1), .null, .null]) hC hin in_sh ty_sh ty_sh_ok nm_sh hw rfl 1 (by decide) tw_70 rfl rfl rfl rfl (Nat.le_of_ble_eq_true rfl) rfl d_sh_init_14 (fun H locs hw => ?_)
  refine lv_aload_n hC.1 hC.2.1 d_sh_init_17 rfl (lv_at hl 0 rfl) ?_
  refine lv_bipush (v := iI 12) hC.1 hC.2.1 d_sh_init_18 (by decide +kernel) ?_
  refine bm_int hC hw (z := 12) (N := 12) (by decide) (by decide) rfl (Nat.le_of_ble_eq_true rfl) (Nat.le_of_ble_eq_true rfl) (h0 + 2) rfl d_sh_init_20 (fun H hw => ?_)
  refine bn_putF (fs2 := [.int (iI 0), .ref (h0 + 1), .ref (h0 + 2), .null]) hC hin in_sh ty_sh ty_sh_ok nm_sh hw rfl 2 (by decide) tw_72 rfl rfl rfl rfl (Nat.le_of_ble_eq_true rfl) rfl d_sh_init_22 (fun H locs hw => ?_)
  refine lv_aload_n hC.1 hC.2.1 d_sh_init_25 rfl (lv_at hl 0 rfl) ?_
  refine lv_bipush (v := iI 12) hC.1 hC.2.1 d_sh_init_26 (by decide +kernel) ?_
  refine bm_int hC hw (z := 12) (N := 12) (by decide) (by decide) rfl (Nat.le_of_ble_eq_true rfl) (Nat.le_of_ble_eq_true rfl) (h0 + 3) rfl d_sh_init_28 (fun H hw => ?_)
  refine bn_putF (fs2 := [.int (iI 0), .ref (h0 + 1), .ref (h0 + 2), .ref (h0 + 3)]) hC hin in_sh ty_sh ty_sh_ok nm_sh hw rfl 3 (by decide) tw_74 rfl rfl rfl rfl (Nat.le_of_ble_eq_true rfl) rfl d_sh_init_30 (fun H locs hw => ?_)
  exact rt_B hC hr hlk hw rfl ⟨Nat.le_of_ble_eq_true rfl, Nat.le_of_ble_eq_true rfl⟩ d_sh_init_33
def w_ps (G : Gt) (h0 : Nat) : va_W := (h0, .inr (0, [.int (iI 0), .ref (h0 + 1), .ref (h0 + 2), .ref (h0 + 3), .ref (h0 + 4), .ref (h0 + 5), .ref (h0 + 6), .ref (h0 + 7), .ref (h0 + 8)])) :: (([] : va_W) ++ [(h0 + 1, .inl (G.2.2.1 1, 31, .inl (fun _ => iI 0)))] ++ [(h0 + 2, .inl (G.2.2.1 0, 31, .inl (fun _ => iI 0)))] ++ [(h0 + 3, .inl (G.2.2.1 0, 31, .inl (fun _ => iI 0)))] ++ [(h0 + 4, .inl (G.2.2.1 0, 31, .inl (fun _ => iI 0)))] ++ [(h0 + 5, .inl (G.2.2.1 0, 217, .inl (fun _ => iI 0)))] ++ [(h0 + 6, .inl (G.2.2.1 1, 217, .inl (fun _ => iI 0)))] ++ [(h0 + 7, .inl (G.2.2.1 0, 248, .inl (fun _ => iI 0)))] ++ [(h0 + 8, .inl (G.2.2.1 0, 372, .inl (fun _ => iI 0)))])
theorem ln_ps (G : Gt) (h0 : Nat) : (w_ps G h0).length = 9 := by simp [w_ps, ln_pc, ln_sh]
theorem sq_ps (G : Gt) (h0 : Nat) : ∀ (j : Nat) (q : Nat × va_E), (w_ps G h0)[j]? = some q → q.1 = h0 + j := by
  unfold w_ps
  refine sq_cons ?_
  refine sq_app (n := h0 + 8) ?_ (by simp [List.length_append, ln_pc, ln_sh] <;> omega) sq_one
  refine sq_app (n := h0 + 7) ?_ (by simp [List.length_append, ln_pc, ln_sh] <;> omega) sq_one
  refine sq_app (n := h0 + 6) ?_ (by simp [List.length_append, ln_pc, ln_sh] <;> omega) sq_one
  refine sq_app (n := h0 + 5) ?_ (by simp [List.length_append, ln_pc, ln_sh] <;> omega) sq_one
  refine sq_app (n := h0 + 4) ?_ (by simp [List.length_append, ln_pc, ln_sh] <;> omega) sq_one
  refine sq_app (n := h0 + 3) ?_ (by simp [List.length_append, ln_pc, ln_sh] <;> omega) sq_one
  refine sq_app (n := h0 + 2) ?_ (by simp [List.length_append, ln_pc, ln_sh] <;> omega) sq_one
  refine sq_app (n := h0 + 1) ?_ (by simp [List.length_append, ln_pc, ln_sh] <;> omega) sq_one
  exact sq_nil
set_option maxHeartbeats 4000000 in
set_option maxRecDepth 100000 in
theorem c_ps_init (l : Launch) (G : Gt) (h0 : Nat) : Met l y_ps_init [.code y_ps_init b_ps_init 1 none] { frames := 1, cells := 8, slots := 1178, locals := 12 } (va_Pc [.ref h0] (fun U => bu G h0 (.inr (0, [.int (iI 0), .null, .null, .null, .null, .null, .null, .null, .null])) U)) (qB G h0 (w_ps G h0)) 8 1178 (fun q => h0 ≤ q) := by
  refine bt_of (by decide +kernel) rfl ?_
  intro p e s m below meth c ls hC hr hlk hin hw hl
  have hw : cwd G h0 ((h0, .inr (0, [.int (iI 0), .null, .null, .null, .null, .null, .null, .null, .null])) :: ([] : va_W)) s s.heap [] := hw
  refine lv_aload_n hC.1 hC.2.1 d_ps_init_0 rfl (lv_at hl 0 rfl) ?_
  refine bn_obj hC tw_90 hl.1 (Nat.le_of_ble_eq_true rfl) (Nat.le_of_ble_eq_true rfl) d_ps_init_1 ?_
  refine lv_aload_n hC.1 hC.2.1 d_ps_init_4 rfl (lv_at hl 0 rfl) ?_
  refine lv_iconst (v := iI 0) hC.1 hC.2.1 d_ps_init_5 rfl ?_
  refine bn_put (fs2 := [.int (iI 0), .null, .null, .null, .null, .null, .null, .null, .null]) hC in_ps ty_ps ty_ps_ok nm_ps hw rfl 0 (by decide) tw_91 rfl rfl rfl (Nat.le_of_ble_eq_true rfl) rfl d_ps_init_6 (fun H locs hw => ?_)
  refine lv_aload_n hC.1 hC.2.1 d_ps_init_9 rfl (lv_at hl 0 rfl) ?_
  refine lv_bipush (v := iI 31) hC.1 hC.2.1 d_ps_init_10 (by decide +kernel) ?_
  refine bm_bool hC hw (z := 31) (N := 31) (by decide) (by decide) rfl (Nat.le_of_ble_eq_true rfl) (Nat.le_of_ble_eq_true rfl) (h0 + 1) rfl d_ps_init_12 (fun H hw => ?_)
  refine bn_putF (fs2 := [.int (iI 0), .ref (h0 + 1), .null, .null, .null, .null, .null, .null, .null]) hC hin in_ps ty_ps ty_ps_ok nm_ps hw rfl 1 (by decide) tw_93 rfl rfl rfl rfl (Nat.le_of_ble_eq_true rfl) rfl d_ps_init_14 (fun H locs hw => ?_)
  refine lv_aload_n hC.1 hC.2.1 d_ps_init_17 rfl (lv_at hl 0 rfl) ?_
  refine lv_bipush (v := iI 31) hC.1 hC.2.1 d_ps_init_18 (by decide +kernel) ?_
  refine bm_int hC hw (z := 31) (N := 31) (by decide) (by decide) rfl (Nat.le_of_ble_eq_true rfl) (Nat.le_of_ble_eq_true rfl) (h0 + 2) rfl d_ps_init_20 (fun H hw => ?_)
  refine bn_putF (fs2 := [.int (iI 0), .ref (h0 + 1), .ref (h0 + 2), .null, .null, .null, .null, .null, .null]) hC hin in_ps ty_ps ty_ps_ok nm_ps hw rfl 2 (by decide) tw_95 rfl rfl rfl rfl (Nat.le_of_ble_eq_true rfl) rfl d_ps_init_22 (fun H locs hw => ?_)
  refine lv_aload_n hC.1 hC.2.1 d_ps_init_25 rfl (lv_at hl 0 rfl) ?_
  refine lv_bipush (v := iI 31) hC.1 hC.2.1 d_ps_init_26 (by decide +kernel) ?_
  refine bm_int hC hw (z := 31) (N := 31) (by decide) (by decide) rfl (Nat.le_of_ble_eq_true rfl) (Nat.le_of_ble_eq_true rfl) (h0 + 3) rfl d_ps_init_28 (fun H hw => ?_)
  refine bn_putF (fs2 := [.int (iI 0), .ref (h0 + 1), .ref (h0 + 2), .ref (h0 + 3), .null, .null, .null, .null, .null]) hC hin in_ps ty_ps ty_ps_ok nm_ps hw rfl 3 (by decide) tw_97 rfl rfl rfl rfl (Nat.le_of_ble_eq_true rfl) rfl d_ps_init_30 (fun H locs hw => ?_)
  refine lv_aload_n hC.1 hC.2.1 d_ps_init_33 rfl (lv_at hl 0 rfl) ?_
  refine lv_bipush (v := iI 31) hC.1 hC.2.1 d_ps_init_34 (by decide +kernel) ?_
  refine bm_int hC hw (z := 31) (N := 31) (by decide) (by decide) rfl (Nat.le_of_ble_eq_true rfl) (Nat.le_of_ble_eq_true rfl) (h0 + 4) rfl d_ps_init_36 (fun H hw => ?_)
  refine bn_putF (fs2 := [.int (iI 0), .ref (h0 + 1), .ref (h0 + 2), .ref (h0 + 3), .ref (h0 + 4), .null, .null, .null, .null]) hC hin in_ps ty_ps ty_ps_ok nm_ps hw rfl 4 (by decide) tw_99 rfl rfl rfl rfl (Nat.le_of_ble_eq_true rfl) rfl d_ps_init_38 (fun H locs hw => ?_)
  refine lv_aload_n hC.1 hC.2.1 d_ps_init_41 rfl (lv_at hl 0 rfl) ?_
  refine lv_sipush (v := iI 217) hC.1 hC.2.1 d_ps_init_42 (by decide +kernel) ?_
  refine bm_int hC hw (z := 217) (N := 217) (by decide) (by decide) rfl (Nat.le_of_ble_eq_true rfl) (Nat.le_of_ble_eq_true rfl) (h0 + 5) rfl d_ps_init_45 (fun H hw => ?_)
  refine bn_putF (fs2 := [.int (iI 0), .ref (h0 + 1), .ref (h0 + 2), .ref (h0 + 3), .ref (h0 + 4), .ref (h0 + 5), .null, .null, .null]) hC hin in_ps ty_ps ty_ps_ok nm_ps hw rfl 5 (by decide) tw_101 rfl rfl rfl rfl (Nat.le_of_ble_eq_true rfl) rfl d_ps_init_47 (fun H locs hw => ?_)
  refine lv_aload_n hC.1 hC.2.1 d_ps_init_50 rfl (lv_at hl 0 rfl) ?_
  refine lv_sipush (v := iI 217) hC.1 hC.2.1 d_ps_init_51 (by decide +kernel) ?_
  refine bm_bool hC hw (z := 217) (N := 217) (by decide) (by decide) rfl (Nat.le_of_ble_eq_true rfl) (Nat.le_of_ble_eq_true rfl) (h0 + 6) rfl d_ps_init_54 (fun H hw => ?_)
  refine bn_putF (fs2 := [.int (iI 0), .ref (h0 + 1), .ref (h0 + 2), .ref (h0 + 3), .ref (h0 + 4), .ref (h0 + 5), .ref (h0 + 6), .null, .null]) hC hin in_ps ty_ps ty_ps_ok nm_ps hw rfl 6 (by decide) tw_102 rfl rfl rfl rfl (Nat.le_of_ble_eq_true rfl) rfl d_ps_init_56 (fun H locs hw => ?_)
  refine lv_aload_n hC.1 hC.2.1 d_ps_init_59 rfl (lv_at hl 0 rfl) ?_
  refine lv_sipush (v := iI 248) hC.1 hC.2.1 d_ps_init_60 (by decide +kernel) ?_
  refine bm_int hC hw (z := 248) (N := 248) (by decide) (by decide) rfl (Nat.le_of_ble_eq_true rfl) (Nat.le_of_ble_eq_true rfl) (h0 + 7) rfl d_ps_init_63 (fun H hw => ?_)
  refine bn_putF (fs2 := [.int (iI 0), .ref (h0 + 1), .ref (h0 + 2), .ref (h0 + 3), .ref (h0 + 4), .ref (h0 + 5), .ref (h0 + 6), .ref (h0 + 7), .null]) hC hin in_ps ty_ps ty_ps_ok nm_ps hw rfl 7 (by decide) tw_103 rfl rfl rfl rfl (Nat.le_of_ble_eq_true rfl) rfl d_ps_init_65 (fun H locs hw => ?_)
  refine lv_aload_n hC.1 hC.2.1 d_ps_init_68 rfl (lv_at hl 0 rfl) ?_
  refine lv_sipush (v := iI 372) hC.1 hC.2.1 d_ps_init_69 (by decide +kernel) ?_
  refine bm_int hC hw (z := 372) (N := 372) (by decide) (by decide) rfl (Nat.le_of_ble_eq_true rfl) (Nat.le_of_ble_eq_true rfl) (h0 + 8) rfl d_ps_init_72 (fun H hw => ?_)
  refine bn_putF (fs2 := [.int (iI 0), .ref (h0 + 1), .ref (h0 + 2), .ref (h0 + 3), .ref (h0 + 4), .ref (h0 + 5), .ref (h0 + 6), .ref (h0 + 7), .ref (h0 + 8)]) hC hin in_ps ty_ps ty_ps_ok nm_ps hw rfl 8 (by decide) tw_104 rfl rfl rfl rfl (Nat.le_of_ble_eq_true rfl) rfl d_ps_init_74 (fun H locs hw => ?_)
  exact rt_B hC hr hlk hw rfl ⟨Nat.le_of_ble_eq_true rfl, Nat.le_of_ble_eq_true rfl⟩ d_ps_init_77
def w_cr (G : Gt) (h0 : Nat) : va_W := (h0, .inr (3, [.ref (h0 + 1), .ref (h0 + 10), .ref (h0 + 14), .ref (h0 + 23), .ref (h0 + 24), .int (iI 0), .int (iI 0)])) :: (([] : va_W) ++ w_pc G (h0 + 1) ++ w_sh G (h0 + 10) ++ w_ps G (h0 + 14) ++ [(h0 + 23, .inl (G.2.2.1 0, 8, .inl (fun _ => iI 0)))] ++ [(h0 + 24, .inl (G.2.2.1 0, 4, .inl (fun _ => iI 0)))])
theorem ln_cr (G : Gt) (h0 : Nat) : (w_cr G h0).length = 25 := by simp [w_cr, ln_pc, ln_sh, ln_ps]
theorem sq_cr (G : Gt) (h0 : Nat) : ∀ (j : Nat) (q : Nat × va_E), (w_cr G h0)[j]? = some q → q.1 = h0 + j := by
  unfold w_cr
  refine sq_cons ?_
  refine sq_app (n := h0 + 24) ?_ (by simp [List.length_append, ln_pc, ln_sh, ln_ps] <;> omega) sq_one
  refine sq_app (n := h0 + 23) ?_ (by simp [List.length_append, ln_pc, ln_sh, ln_ps] <;> omega) sq_one
  refine sq_app (n := h0 + 14) ?_ (by simp [List.length_append, ln_pc, ln_sh, ln_ps] <;> omega) (sq_ps G _)
  refine sq_app (n := h0 + 10) ?_ (by simp [List.length_append, ln_pc, ln_sh, ln_ps] <;> omega) (sq_sh G _)
  refine sq_app (n := h0 + 1) ?_ (by simp [List.length_append, ln_pc, ln_sh, ln_ps] <;> omega) (sq_pc G _)
  exact sq_nil
set_option maxHeartbeats 4000000 in
set_option maxRecDepth 100000 in
theorem c_cr_init (l : Launch) (G : Gt) (h0 : Nat) : Met l y_cr_init [.code y_cr_init b_cr_init 1 none] { frames := 2, cells := 24, slots := 1464, locals := 32 } (va_Pc [.ref h0] (fun U => bu G h0 (.inr (3, [.null, .null, .null, .null, .null, .int (iI 0), .int (iI 0)])) U)) (qB G h0 (w_cr G h0)) 24 1464 (fun q => h0 ≤ q) := by
  refine bt_of (by decide +kernel) rfl ?_
  intro p e s m below meth c ls hC hr hlk hin hw hl
  have hw : cwd G h0 ((h0, .inr (3, [.null, .null, .null, .null, .null, .int (iI 0), .int (iI 0)])) :: ([] : va_W)) s s.heap [] := hw
  refine lv_aload_n hC.1 hC.2.1 d_cr_init_0 rfl (lv_at hl 0 rfl) ?_
  refine bn_obj hC tw_18 hl.1 (Nat.le_of_ble_eq_true rfl) (Nat.le_of_ble_eq_true rfl) d_cr_init_1 ?_
  refine lv_aload_n hC.1 hC.2.1 d_cr_init_4 rfl (lv_at hl 0 rfl) ?_
  refine bm_new (ci := 1) (fs := [.int (iI 0), .null, .null, .null, .null, .null, .null, .null, .null]) hC in_pc ty_pc ty_pc_ok tw_21 tw_22 tw_2 hw rfl (fun j hj => by rcases (show j = 0 ∨ j = 1 ∨ j = 2 ∨ j = 3 ∨ j = 4 ∨ j = 5 ∨ j = 6 ∨ j = 7 ∨ j = 8 by omega) with rfl | rfl | rfl | rfl | rfl | rfl | rfl | rfl | rfl <;> rfl) (Nat.le_of_ble_eq_true rfl) (Nat.le_of_ble_eq_true rfl) (h0 + 1) rfl d_cr_init_5 (fun H hw => ?_)
  refine lv_dup hC.1 hC.2.1 d_cr_init_8 rfl ?_
  refine cm_C (rest := [.ref (h0 + 1), .ref h0]) hC hw (c_pc_init l G (h0 + 1)) (mkB hC 0 tw_25 tw_2 tw_23 rfl rfl (by decide +kernel) (Nat.le_of_ble_eq_true rfl) (Nat.le_of_ble_eq_true rfl)) rfl tw_24 (sq_pc G _) (by rw [ln_pc]; decide) hl.1 rfl (Nat.le_of_ble_eq_true rfl) d_cr_init_9 ⟨Nat.le_of_ble_eq_true rfl, Nat.le_of_ble_eq_true rfl⟩ (fun H locs hw => ?_)
  refine bn_putF (fs2 := [.ref (h0 + 1), .null, .null, .null, .null, .int (iI 0), .int (iI 0)]) hC hin in_cr ty_cr ty_cr_ok nm_cr hw rfl 0 (by decide) tw_125 rfl rfl rfl rfl (Nat.le_of_ble_eq_true rfl) rfl d_cr_init_12 (fun H locs hw => ?_)
  refine lv_aload_n hC.1 hC.2.1 d_cr_init_15 rfl (lv_at hl 0 rfl) ?_
  refine bm_new (ci := 2) (fs := [.int (iI 0), .null, .null, .null]) hC in_sh ty_sh ty_sh_ok tw_62 tw_63 tw_3 hw rfl (fun j hj => by rcases (show j = 0 ∨ j = 1 ∨ j = 2 ∨ j = 3 by omega) with rfl | rfl | rfl | rfl <;> rfl) (Nat.le_of_ble_eq_true rfl) (Nat.le_of_ble_eq_true rfl) (h0 + 10) rfl d_cr_init_16 (fun H hw => ?_)
  refine lv_dup hC.1 hC.2.1 d_cr_init_19 rfl ?_
  refine cm_C (rest := [.ref (h0 + 10), .ref h0]) hC hw (c_sh_init l G (h0 + 10)) (mkB hC 0 tw_66 tw_3 tw_64 rfl rfl (by decide +kernel) (Nat.le_of_ble_eq_true rfl) (Nat.le_of_ble_eq_true rfl)) rfl tw_65 (sq_sh G _) (by rw [ln_sh]; decide) hl.1 rfl (Nat.le_of_ble_eq_true rfl) d_cr_init_20 ⟨Nat.le_of_ble_eq_true rfl, Nat.le_of_ble_eq_true rfl⟩ (fun H locs hw => ?_)
  refine bn_putF (fs2 := [.ref (h0 + 1), .ref (h0 + 10), .null, .null, .null, .int (iI 0), .int (iI 0)]) hC hin in_cr ty_cr ty_cr_ok nm_cr hw rfl 1 (by decide) tw_126 rfl rfl rfl rfl (Nat.le_of_ble_eq_true rfl) rfl d_cr_init_23 (fun H locs hw => ?_)
  refine lv_aload_n hC.1 hC.2.1 d_cr_init_26 rfl (lv_at hl 0 rfl) ?_
  refine bm_new (ci := 0) (fs := [.int (iI 0), .null, .null, .null, .null, .null, .null, .null, .null]) hC in_ps ty_ps ty_ps_ok tw_85 tw_86 tw_4 hw rfl (fun j hj => by rcases (show j = 0 ∨ j = 1 ∨ j = 2 ∨ j = 3 ∨ j = 4 ∨ j = 5 ∨ j = 6 ∨ j = 7 ∨ j = 8 by omega) with rfl | rfl | rfl | rfl | rfl | rfl | rfl | rfl | rfl <;> rfl) (Nat.le_of_ble_eq_true rfl) (Nat.le_of_ble_eq_true rfl) (h0 + 14) rfl d_cr_init_27 (fun H hw => ?_)
  refine lv_dup hC.1 hC.2.1 d_cr_init_30 rfl ?_
  refine cm_C (rest := [.ref (h0 + 14), .ref h0]) hC hw (c_ps_init l G (h0 + 14)) (mkB hC 0 tw_89 tw_4 tw_87 rfl rfl (by decide +kernel) (Nat.le_of_ble_eq_true rfl) (Nat.le_of_ble_eq_true rfl)) rfl tw_88 (sq_ps G _) (by rw [ln_ps]; decide) hl.1 rfl (Nat.le_of_ble_eq_true rfl) d_cr_init_31 ⟨Nat.le_of_ble_eq_true rfl, Nat.le_of_ble_eq_true rfl⟩ (fun H locs hw => ?_)
  refine bn_putF (fs2 := [.ref (h0 + 1), .ref (h0 + 10), .ref (h0 + 14), .null, .null, .int (iI 0), .int (iI 0)]) hC hin in_cr ty_cr ty_cr_ok nm_cr hw rfl 2 (by decide) tw_127 rfl rfl rfl rfl (Nat.le_of_ble_eq_true rfl) rfl d_cr_init_34 (fun H locs hw => ?_)
  refine lv_aload_n hC.1 hC.2.1 d_cr_init_37 rfl (lv_at hl 0 rfl) ?_
  refine lv_bipush (v := iI 8) hC.1 hC.2.1 d_cr_init_38 (by decide +kernel) ?_
  refine bm_int hC hw (z := 8) (N := 8) (by decide) (by decide) rfl (Nat.le_of_ble_eq_true rfl) (Nat.le_of_ble_eq_true rfl) (h0 + 23) rfl d_cr_init_40 (fun H hw => ?_)
  refine bn_putF (fs2 := [.ref (h0 + 1), .ref (h0 + 10), .ref (h0 + 14), .ref (h0 + 23), .null, .int (iI 0), .int (iI 0)]) hC hin in_cr ty_cr ty_cr_ok nm_cr hw rfl 3 (by decide) tw_128 rfl rfl rfl rfl (Nat.le_of_ble_eq_true rfl) rfl d_cr_init_42 (fun H locs hw => ?_)
  refine lv_aload_n hC.1 hC.2.1 d_cr_init_45 rfl (lv_at hl 0 rfl) ?_
  refine lv_iconst (v := iI 4) hC.1 hC.2.1 d_cr_init_46 rfl ?_
  refine bm_int hC hw (z := 4) (N := 4) (by decide) (by decide) rfl (Nat.le_of_ble_eq_true rfl) (Nat.le_of_ble_eq_true rfl) (h0 + 24) rfl d_cr_init_47 (fun H hw => ?_)
  refine bn_putF (fs2 := [.ref (h0 + 1), .ref (h0 + 10), .ref (h0 + 14), .ref (h0 + 23), .ref (h0 + 24), .int (iI 0), .int (iI 0)]) hC hin in_cr ty_cr ty_cr_ok nm_cr hw rfl 4 (by decide) tw_129 rfl rfl rfl rfl (Nat.le_of_ble_eq_true rfl) rfl d_cr_init_49 (fun H locs hw => ?_)
  refine lv_aload_n hC.1 hC.2.1 d_cr_init_52 rfl (lv_at hl 0 rfl) ?_
  refine lv_iconst (v := iI 0) hC.1 hC.2.1 d_cr_init_53 rfl ?_
  refine bn_put (fs2 := [.ref (h0 + 1), .ref (h0 + 10), .ref (h0 + 14), .ref (h0 + 23), .ref (h0 + 24), .int (iI 0), .int (iI 0)]) hC in_cr ty_cr ty_cr_ok nm_cr hw rfl 5 (by decide) tw_130 rfl (nar_b (Or.inl rfl)) (fit_b (Or.inl rfl)) (Nat.le_of_ble_eq_true rfl) rfl d_cr_init_54 (fun H locs hw => ?_)
  refine lv_aload_n hC.1 hC.2.1 d_cr_init_57 rfl (lv_at hl 0 rfl) ?_
  refine lv_iconst (v := iI 0) hC.1 hC.2.1 d_cr_init_58 rfl ?_
  refine bn_put (fs2 := [.ref (h0 + 1), .ref (h0 + 10), .ref (h0 + 14), .ref (h0 + 23), .ref (h0 + 24), .int (iI 0), .int (iI 0)]) hC in_cr ty_cr ty_cr_ok nm_cr hw rfl 6 (by decide) tw_131 rfl rfl rfl (Nat.le_of_ble_eq_true rfl) rfl d_cr_init_59 (fun H locs hw => ?_)
  exact rt_B hC hr hlk hw rfl ⟨Nat.le_of_ble_eq_true rfl, Nat.le_of_ble_eq_true rfl⟩ d_cr_init_62
def w_md (G : Gt) (h0 : Nat) : va_W := (h0, .inr (4, [.int (iI 0), .int (iI 0), .ref (h0 + 1), .ref (h0 + 2), .ref (h0 + 3), .ref (h0 + 4), .ref (h0 + 5), .ref (h0 + 6), .ref (h0 + 7), .ref (h0 + 8), .int (iI 0), .ref (h0 + 9), .ref (h0 + 10), .ref (h0 + 11), .int (iI 0), .int (iI 0), .int (iI 0), .ref (h0 + 12), .ref (h0 + 13), .ref (h0 + 14), .ref (h0 + 15), .ref (h0 + 16), .ref (h0 + 17), .ref (h0 + 18)])) :: (([] : va_W) ++ [(h0 + 1, .inl (G.2.2.1 0, 12, .inl (fun _ => iI 0)))] ++ [(h0 + 2, .inl (G.2.2.1 0, 12, .inl (fun _ => iI 0)))] ++ [(h0 + 3, .inl (G.2.2.1 0, 12, .inl (fun _ => iI 0)))] ++ [(h0 + 4, .inl (G.2.2.1 0, 12, .inl (fun _ => iI 0)))] ++ [(h0 + 5, .inl (G.2.2.1 0, 60, .inl (fun _ => iI 0)))] ++ [(h0 + 6, .inl (G.2.2.1 0, 12, .inl (fun _ => iI 0)))] ++ [(h0 + 7, .inl (G.2.2.1 0, 48, .inl (fun _ => iI 0)))] ++ [(h0 + 8, .inl (G.2.2.1 0, 48, .inl (fun _ => iI 0)))] ++ [(h0 + 9, .inl (G.2.2.1 0, 12, .inl (fun _ => iI 0)))] ++ [(h0 + 10, .inl (G.2.2.1 0, 12, .inl (fun _ => iI 0)))] ++ [(h0 + 11, .inl (G.2.2.1 0, 12, .inl (fun _ => iI 0)))] ++ [(h0 + 12, .inl (G.2.2.1 0, 31, .inl (fun _ => iI 0)))] ++ [(h0 + 13, .inl (G.2.2.1 0, 31, .inl (fun _ => iI 0)))] ++ [(h0 + 14, .inl (G.2.2.1 1, 31, .inl (fun _ => iI 0)))] ++ [(h0 + 15, .inl (G.2.2.1 0, 31, .inl (fun _ => iI 0)))] ++ [(h0 + 16, .inl (G.2.2.1 0, 248, .inl (fun _ => iI 0)))] ++ [(h0 + 17, .inl (G.2.2.1 0, 248, .inl (fun _ => iI 0)))] ++ [(h0 + 18, .inl (G.2.2.1 0, 8, .inl (fun _ => iI 0)))])
theorem ln_md (G : Gt) (h0 : Nat) : (w_md G h0).length = 19 := by simp [w_md, ln_pc, ln_sh, ln_ps, ln_cr]
theorem sq_md (G : Gt) (h0 : Nat) : ∀ (j : Nat) (q : Nat × va_E), (w_md G h0)[j]? = some q → q.1 = h0 + j := by
  unfold w_md
  refine sq_cons ?_
  refine sq_app (n := h0 + 18) ?_ (by simp [List.length_append, ln_pc, ln_sh, ln_ps, ln_cr] <;> omega) sq_one
  refine sq_app (n := h0 + 17) ?_ (by simp [List.length_append, ln_pc, ln_sh, ln_ps, ln_cr] <;> omega) sq_one
  refine sq_app (n := h0 + 16) ?_ (by simp [List.length_append, ln_pc, ln_sh, ln_ps, ln_cr] <;> omega) sq_one
  refine sq_app (n := h0 + 15) ?_ (by simp [List.length_append, ln_pc, ln_sh, ln_ps, ln_cr] <;> omega) sq_one
  refine sq_app (n := h0 + 14) ?_ (by simp [List.length_append, ln_pc, ln_sh, ln_ps, ln_cr] <;> omega) sq_one
  refine sq_app (n := h0 + 13) ?_ (by simp [List.length_append, ln_pc, ln_sh, ln_ps, ln_cr] <;> omega) sq_one
  refine sq_app (n := h0 + 12) ?_ (by simp [List.length_append, ln_pc, ln_sh, ln_ps, ln_cr] <;> omega) sq_one
  refine sq_app (n := h0 + 11) ?_ (by simp [List.length_append, ln_pc, ln_sh, ln_ps, ln_cr] <;> omega) sq_one
  refine sq_app (n := h0 + 10) ?_ (by simp [List.length_append, ln_pc, ln_sh, ln_ps, ln_cr] <;> omega) sq_one
  refine sq_app (n := h0 + 9) ?_ (by simp [List.length_append, ln_pc, ln_sh, ln_ps, ln_cr] <;> omega) sq_one
  refine sq_app (n := h0 + 8) ?_ (by simp [List.length_append, ln_pc, ln_sh, ln_ps, ln_cr] <;> omega) sq_one
  refine sq_app (n := h0 + 7) ?_ (by simp [List.length_append, ln_pc, ln_sh, ln_ps, ln_cr] <;> omega) sq_one
  refine sq_app (n := h0 + 6) ?_ (by simp [List.length_append, ln_pc, ln_sh, ln_ps, ln_cr] <;> omega) sq_one
  refine sq_app (n := h0 + 5) ?_ (by simp [List.length_append, ln_pc, ln_sh, ln_ps, ln_cr] <;> omega) sq_one
  refine sq_app (n := h0 + 4) ?_ (by simp [List.length_append, ln_pc, ln_sh, ln_ps, ln_cr] <;> omega) sq_one
  refine sq_app (n := h0 + 3) ?_ (by simp [List.length_append, ln_pc, ln_sh, ln_ps, ln_cr] <;> omega) sq_one
  refine sq_app (n := h0 + 2) ?_ (by simp [List.length_append, ln_pc, ln_sh, ln_ps, ln_cr] <;> omega) sq_one
  refine sq_app (n := h0 + 1) ?_ (by simp [List.length_append, ln_pc, ln_sh, ln_ps, ln_cr] <;> omega) sq_one
  exact sq_nil
set_option maxHeartbeats 4000000 in
set_option maxRecDepth 100000 in
theorem c_md_init (l : Launch) (G : Gt) (h0 : Nat) : Met l y_md_init [.code y_md_init b_md_init 1 none] { frames := 1, cells := 18, slots := 880, locals := 12 } (va_Pc [.ref h0] (fun U => bu G h0 (.inr (4, [.int (iI 0), .int (iI 0), .null, .null, .null, .null, .null, .null, .null, .null, .int (iI 0), .null, .null, .null, .int (iI 0), .int (iI 0), .int (iI 0), .null, .null, .null, .null, .null, .null, .null])) U)) (qB G h0 (w_md G h0)) 18 880 (fun q => h0 ≤ q) := by
  refine bt_of (by decide +kernel) rfl ?_
  intro p e s m below meth c ls hC hr hlk hin hw hl
  have hw : cwd G h0 ((h0, .inr (4, [.int (iI 0), .int (iI 0), .null, .null, .null, .null, .null, .null, .null, .null, .int (iI 0), .null, .null, .null, .int (iI 0), .int (iI 0), .int (iI 0), .null, .null, .null, .null, .null, .null, .null])) :: ([] : va_W)) s s.heap [] := hw
  refine lv_aload_n hC.1 hC.2.1 d_md_init_0 rfl (lv_at hl 0 rfl) ?_
  refine bn_obj hC tw_555 hl.1 (Nat.le_of_ble_eq_true rfl) (Nat.le_of_ble_eq_true rfl) d_md_init_1 ?_
  refine lv_aload_n hC.1 hC.2.1 d_md_init_4 rfl (lv_at hl 0 rfl) ?_
  refine lv_bipush (v := iI 12) hC.1 hC.2.1 d_md_init_5 (by decide +kernel) ?_
  refine bm_int hC hw (z := 12) (N := 12) (by decide) (by decide) rfl (Nat.le_of_ble_eq_true rfl) (Nat.le_of_ble_eq_true rfl) (h0 + 1) rfl d_md_init_7 (fun H hw => ?_)
  refine bn_putF (fs2 := [.int (iI 0), .int (iI 0), .ref (h0 + 1), .null, .null, .null, .null, .null, .null, .null, .int (iI 0), .null, .null, .null, .int (iI 0), .int (iI 0), .int (iI 0), .null, .null, .null, .null, .null, .null, .null]) hC hin in_md ty_md ty_md_ok nm_md hw rfl 2 (by decide) tw_558 rfl rfl rfl rfl (Nat.le_of_ble_eq_true rfl) rfl d_md_init_9 (fun H locs hw => ?_)
  refine lv_aload_n hC.1 hC.2.1 d_md_init_12 rfl (lv_at hl 0 rfl) ?_
  refine lv_bipush (v := iI 12) hC.1 hC.2.1 d_md_init_13 (by decide +kernel) ?_
  refine bm_int hC hw (z := 12) (N := 12) (by decide) (by decide) rfl (Nat.le_of_ble_eq_true rfl) (Nat.le_of_ble_eq_true rfl) (h0 + 2) rfl d_md_init_15 (fun H hw => ?_)
  refine bn_putF (fs2 := [.int (iI 0), .int (iI 0), .ref (h0 + 1), .ref (h0 + 2), .null, .null, .null, .null, .null, .null, .int (iI 0), .null, .null, .null, .int (iI 0), .int (iI 0), .int (iI 0), .null, .null, .null, .null, .null, .null, .null]) hC hin in_md ty_md ty_md_ok nm_md hw rfl 3 (by decide) tw_559 rfl rfl rfl rfl (Nat.le_of_ble_eq_true rfl) rfl d_md_init_17 (fun H locs hw => ?_)
  refine lv_aload_n hC.1 hC.2.1 d_md_init_20 rfl (lv_at hl 0 rfl) ?_
  refine lv_bipush (v := iI 12) hC.1 hC.2.1 d_md_init_21 (by decide +kernel) ?_
  refine bm_int hC hw (z := 12) (N := 12) (by decide) (by decide) rfl (Nat.le_of_ble_eq_true rfl) (Nat.le_of_ble_eq_true rfl) (h0 + 3) rfl d_md_init_23 (fun H hw => ?_)
  refine bn_putF (fs2 := [.int (iI 0), .int (iI 0), .ref (h0 + 1), .ref (h0 + 2), .ref (h0 + 3), .null, .null, .null, .null, .null, .int (iI 0), .null, .null, .null, .int (iI 0), .int (iI 0), .int (iI 0), .null, .null, .null, .null, .null, .null, .null]) hC hin in_md ty_md ty_md_ok nm_md hw rfl 4 (by decide) tw_560 rfl rfl rfl rfl (Nat.le_of_ble_eq_true rfl) rfl d_md_init_25 (fun H locs hw => ?_)
  refine lv_aload_n hC.1 hC.2.1 d_md_init_28 rfl (lv_at hl 0 rfl) ?_
  refine lv_bipush (v := iI 12) hC.1 hC.2.1 d_md_init_29 (by decide +kernel) ?_
  refine bm_int hC hw (z := 12) (N := 12) (by decide) (by decide) rfl (Nat.le_of_ble_eq_true rfl) (Nat.le_of_ble_eq_true rfl) (h0 + 4) rfl d_md_init_31 (fun H hw => ?_)
  refine bn_putF (fs2 := [.int (iI 0), .int (iI 0), .ref (h0 + 1), .ref (h0 + 2), .ref (h0 + 3), .ref (h0 + 4), .null, .null, .null, .null, .int (iI 0), .null, .null, .null, .int (iI 0), .int (iI 0), .int (iI 0), .null, .null, .null, .null, .null, .null, .null]) hC hin in_md ty_md ty_md_ok nm_md hw rfl 5 (by decide) tw_561 rfl rfl rfl rfl (Nat.le_of_ble_eq_true rfl) rfl d_md_init_33 (fun H locs hw => ?_)
  refine lv_aload_n hC.1 hC.2.1 d_md_init_36 rfl (lv_at hl 0 rfl) ?_
  refine lv_bipush (v := iI 60) hC.1 hC.2.1 d_md_init_37 (by decide +kernel) ?_
  refine bm_int hC hw (z := 60) (N := 60) (by decide) (by decide) rfl (Nat.le_of_ble_eq_true rfl) (Nat.le_of_ble_eq_true rfl) (h0 + 5) rfl d_md_init_39 (fun H hw => ?_)
  refine bn_putF (fs2 := [.int (iI 0), .int (iI 0), .ref (h0 + 1), .ref (h0 + 2), .ref (h0 + 3), .ref (h0 + 4), .ref (h0 + 5), .null, .null, .null, .int (iI 0), .null, .null, .null, .int (iI 0), .int (iI 0), .int (iI 0), .null, .null, .null, .null, .null, .null, .null]) hC hin in_md ty_md ty_md_ok nm_md hw rfl 6 (by decide) tw_562 rfl rfl rfl rfl (Nat.le_of_ble_eq_true rfl) rfl d_md_init_41 (fun H locs hw => ?_)
  refine lv_aload_n hC.1 hC.2.1 d_md_init_44 rfl (lv_at hl 0 rfl) ?_
  refine lv_bipush (v := iI 12) hC.1 hC.2.1 d_md_init_45 (by decide +kernel) ?_
  refine bm_int hC hw (z := 12) (N := 12) (by decide) (by decide) rfl (Nat.le_of_ble_eq_true rfl) (Nat.le_of_ble_eq_true rfl) (h0 + 6) rfl d_md_init_47 (fun H hw => ?_)
  refine bn_putF (fs2 := [.int (iI 0), .int (iI 0), .ref (h0 + 1), .ref (h0 + 2), .ref (h0 + 3), .ref (h0 + 4), .ref (h0 + 5), .ref (h0 + 6), .null, .null, .int (iI 0), .null, .null, .null, .int (iI 0), .int (iI 0), .int (iI 0), .null, .null, .null, .null, .null, .null, .null]) hC hin in_md ty_md ty_md_ok nm_md hw rfl 7 (by decide) tw_563 rfl rfl rfl rfl (Nat.le_of_ble_eq_true rfl) rfl d_md_init_49 (fun H locs hw => ?_)
  refine lv_aload_n hC.1 hC.2.1 d_md_init_52 rfl (lv_at hl 0 rfl) ?_
  refine lv_bipush (v := iI 48) hC.1 hC.2.1 d_md_init_53 (by decide +kernel) ?_
  refine bm_int hC hw (z := 48) (N := 48) (by decide) (by decide) rfl (Nat.le_of_ble_eq_true rfl) (Nat.le_of_ble_eq_true rfl) (h0 + 7) rfl d_md_init_55 (fun H hw => ?_)
  refine bn_putF (fs2 := [.int (iI 0), .int (iI 0), .ref (h0 + 1), .ref (h0 + 2), .ref (h0 + 3), .ref (h0 + 4), .ref (h0 + 5), .ref (h0 + 6), .ref (h0 + 7), .null, .int (iI 0), .null, .null, .null, .int (iI 0), .int (iI 0), .int (iI 0), .null, .null, .null, .null, .null, .null, .null]) hC hin in_md ty_md ty_md_ok nm_md hw rfl 8 (by decide) tw_564 rfl rfl rfl rfl (Nat.le_of_ble_eq_true rfl) rfl d_md_init_57 (fun H locs hw => ?_)
  refine lv_aload_n hC.1 hC.2.1 d_md_init_60 rfl (lv_at hl 0 rfl) ?_
  refine lv_bipush (v := iI 48) hC.1 hC.2.1 d_md_init_61 (by decide +kernel) ?_
  refine bm_int hC hw (z := 48) (N := 48) (by decide) (by decide) rfl (Nat.le_of_ble_eq_true rfl) (Nat.le_of_ble_eq_true rfl) (h0 + 8) rfl d_md_init_63 (fun H hw => ?_)
  refine bn_putF (fs2 := [.int (iI 0), .int (iI 0), .ref (h0 + 1), .ref (h0 + 2), .ref (h0 + 3), .ref (h0 + 4), .ref (h0 + 5), .ref (h0 + 6), .ref (h0 + 7), .ref (h0 + 8), .int (iI 0), .null, .null, .null, .int (iI 0), .int (iI 0), .int (iI 0), .null, .null, .null, .null, .null, .null, .null]) hC hin in_md ty_md ty_md_ok nm_md hw rfl 9 (by decide) tw_565 rfl rfl rfl rfl (Nat.le_of_ble_eq_true rfl) rfl d_md_init_65 (fun H locs hw => ?_)
  refine lv_aload_n hC.1 hC.2.1 d_md_init_68 rfl (lv_at hl 0 rfl) ?_
  refine lv_bipush (v := iI 12) hC.1 hC.2.1 d_md_init_69 (by decide +kernel) ?_
  refine bm_int hC hw (z := 12) (N := 12) (by decide) (by decide) rfl (Nat.le_of_ble_eq_true rfl) (Nat.le_of_ble_eq_true rfl) (h0 + 9) rfl d_md_init_71 (fun H hw => ?_)
  refine bn_putF (fs2 := [.int (iI 0), .int (iI 0), .ref (h0 + 1), .ref (h0 + 2), .ref (h0 + 3), .ref (h0 + 4), .ref (h0 + 5), .ref (h0 + 6), .ref (h0 + 7), .ref (h0 + 8), .int (iI 0), .ref (h0 + 9), .null, .null, .int (iI 0), .int (iI 0), .int (iI 0), .null, .null, .null, .null, .null, .null, .null]) hC hin in_md ty_md ty_md_ok nm_md hw rfl 11 (by decide) tw_567 rfl rfl rfl rfl (Nat.le_of_ble_eq_true rfl) rfl d_md_init_73 (fun H locs hw => ?_)
  refine lv_aload_n hC.1 hC.2.1 d_md_init_76 rfl (lv_at hl 0 rfl) ?_
  refine lv_bipush (v := iI 12) hC.1 hC.2.1 d_md_init_77 (by decide +kernel) ?_
  refine bm_int hC hw (z := 12) (N := 12) (by decide) (by decide) rfl (Nat.le_of_ble_eq_true rfl) (Nat.le_of_ble_eq_true rfl) (h0 + 10) rfl d_md_init_79 (fun H hw => ?_)
  refine bn_putF (fs2 := [.int (iI 0), .int (iI 0), .ref (h0 + 1), .ref (h0 + 2), .ref (h0 + 3), .ref (h0 + 4), .ref (h0 + 5), .ref (h0 + 6), .ref (h0 + 7), .ref (h0 + 8), .int (iI 0), .ref (h0 + 9), .ref (h0 + 10), .null, .int (iI 0), .int (iI 0), .int (iI 0), .null, .null, .null, .null, .null, .null, .null]) hC hin in_md ty_md ty_md_ok nm_md hw rfl 12 (by decide) tw_568 rfl rfl rfl rfl (Nat.le_of_ble_eq_true rfl) rfl d_md_init_81 (fun H locs hw => ?_)
  refine lv_aload_n hC.1 hC.2.1 d_md_init_84 rfl (lv_at hl 0 rfl) ?_
  refine lv_bipush (v := iI 12) hC.1 hC.2.1 d_md_init_85 (by decide +kernel) ?_
  refine bm_int hC hw (z := 12) (N := 12) (by decide) (by decide) rfl (Nat.le_of_ble_eq_true rfl) (Nat.le_of_ble_eq_true rfl) (h0 + 11) rfl d_md_init_87 (fun H hw => ?_)
  refine bn_putF (fs2 := [.int (iI 0), .int (iI 0), .ref (h0 + 1), .ref (h0 + 2), .ref (h0 + 3), .ref (h0 + 4), .ref (h0 + 5), .ref (h0 + 6), .ref (h0 + 7), .ref (h0 + 8), .int (iI 0), .ref (h0 + 9), .ref (h0 + 10), .ref (h0 + 11), .int (iI 0), .int (iI 0), .int (iI 0), .null, .null, .null, .null, .null, .null, .null]) hC hin in_md ty_md ty_md_ok nm_md hw rfl 13 (by decide) tw_569 rfl rfl rfl rfl (Nat.le_of_ble_eq_true rfl) rfl d_md_init_89 (fun H locs hw => ?_)
  refine lv_aload_n hC.1 hC.2.1 d_md_init_92 rfl (lv_at hl 0 rfl) ?_
  refine lv_bipush (v := iI 31) hC.1 hC.2.1 d_md_init_93 (by decide +kernel) ?_
  refine bm_int hC hw (z := 31) (N := 31) (by decide) (by decide) rfl (Nat.le_of_ble_eq_true rfl) (Nat.le_of_ble_eq_true rfl) (h0 + 12) rfl d_md_init_95 (fun H hw => ?_)
  refine bn_putF (fs2 := [.int (iI 0), .int (iI 0), .ref (h0 + 1), .ref (h0 + 2), .ref (h0 + 3), .ref (h0 + 4), .ref (h0 + 5), .ref (h0 + 6), .ref (h0 + 7), .ref (h0 + 8), .int (iI 0), .ref (h0 + 9), .ref (h0 + 10), .ref (h0 + 11), .int (iI 0), .int (iI 0), .int (iI 0), .ref (h0 + 12), .null, .null, .null, .null, .null, .null]) hC hin in_md ty_md ty_md_ok nm_md hw rfl 17 (by decide) tw_573 rfl rfl rfl rfl (Nat.le_of_ble_eq_true rfl) rfl d_md_init_97 (fun H locs hw => ?_)
  refine lv_aload_n hC.1 hC.2.1 d_md_init_100 rfl (lv_at hl 0 rfl) ?_
  refine lv_bipush (v := iI 31) hC.1 hC.2.1 d_md_init_101 (by decide +kernel) ?_
  refine bm_int hC hw (z := 31) (N := 31) (by decide) (by decide) rfl (Nat.le_of_ble_eq_true rfl) (Nat.le_of_ble_eq_true rfl) (h0 + 13) rfl d_md_init_103 (fun H hw => ?_)
  refine bn_putF (fs2 := [.int (iI 0), .int (iI 0), .ref (h0 + 1), .ref (h0 + 2), .ref (h0 + 3), .ref (h0 + 4), .ref (h0 + 5), .ref (h0 + 6), .ref (h0 + 7), .ref (h0 + 8), .int (iI 0), .ref (h0 + 9), .ref (h0 + 10), .ref (h0 + 11), .int (iI 0), .int (iI 0), .int (iI 0), .ref (h0 + 12), .ref (h0 + 13), .null, .null, .null, .null, .null]) hC hin in_md ty_md ty_md_ok nm_md hw rfl 18 (by decide) tw_574 rfl rfl rfl rfl (Nat.le_of_ble_eq_true rfl) rfl d_md_init_105 (fun H locs hw => ?_)
  refine lv_aload_n hC.1 hC.2.1 d_md_init_108 rfl (lv_at hl 0 rfl) ?_
  refine lv_bipush (v := iI 31) hC.1 hC.2.1 d_md_init_109 (by decide +kernel) ?_
  refine bm_bool hC hw (z := 31) (N := 31) (by decide) (by decide) rfl (Nat.le_of_ble_eq_true rfl) (Nat.le_of_ble_eq_true rfl) (h0 + 14) rfl d_md_init_111 (fun H hw => ?_)
  refine bn_putF (fs2 := [.int (iI 0), .int (iI 0), .ref (h0 + 1), .ref (h0 + 2), .ref (h0 + 3), .ref (h0 + 4), .ref (h0 + 5), .ref (h0 + 6), .ref (h0 + 7), .ref (h0 + 8), .int (iI 0), .ref (h0 + 9), .ref (h0 + 10), .ref (h0 + 11), .int (iI 0), .int (iI 0), .int (iI 0), .ref (h0 + 12), .ref (h0 + 13), .ref (h0 + 14), .null, .null, .null, .null]) hC hin in_md ty_md ty_md_ok nm_md hw rfl 19 (by decide) tw_575 rfl rfl rfl rfl (Nat.le_of_ble_eq_true rfl) rfl d_md_init_113 (fun H locs hw => ?_)
  refine lv_aload_n hC.1 hC.2.1 d_md_init_116 rfl (lv_at hl 0 rfl) ?_
  refine lv_bipush (v := iI 31) hC.1 hC.2.1 d_md_init_117 (by decide +kernel) ?_
  refine bm_int hC hw (z := 31) (N := 31) (by decide) (by decide) rfl (Nat.le_of_ble_eq_true rfl) (Nat.le_of_ble_eq_true rfl) (h0 + 15) rfl d_md_init_119 (fun H hw => ?_)
  refine bn_putF (fs2 := [.int (iI 0), .int (iI 0), .ref (h0 + 1), .ref (h0 + 2), .ref (h0 + 3), .ref (h0 + 4), .ref (h0 + 5), .ref (h0 + 6), .ref (h0 + 7), .ref (h0 + 8), .int (iI 0), .ref (h0 + 9), .ref (h0 + 10), .ref (h0 + 11), .int (iI 0), .int (iI 0), .int (iI 0), .ref (h0 + 12), .ref (h0 + 13), .ref (h0 + 14), .ref (h0 + 15), .null, .null, .null]) hC hin in_md ty_md ty_md_ok nm_md hw rfl 20 (by decide) tw_576 rfl rfl rfl rfl (Nat.le_of_ble_eq_true rfl) rfl d_md_init_121 (fun H locs hw => ?_)
  refine lv_aload_n hC.1 hC.2.1 d_md_init_124 rfl (lv_at hl 0 rfl) ?_
  refine lv_sipush (v := iI 248) hC.1 hC.2.1 d_md_init_125 (by decide +kernel) ?_
  refine bm_int hC hw (z := 248) (N := 248) (by decide) (by decide) rfl (Nat.le_of_ble_eq_true rfl) (Nat.le_of_ble_eq_true rfl) (h0 + 16) rfl d_md_init_128 (fun H hw => ?_)
  refine bn_putF (fs2 := [.int (iI 0), .int (iI 0), .ref (h0 + 1), .ref (h0 + 2), .ref (h0 + 3), .ref (h0 + 4), .ref (h0 + 5), .ref (h0 + 6), .ref (h0 + 7), .ref (h0 + 8), .int (iI 0), .ref (h0 + 9), .ref (h0 + 10), .ref (h0 + 11), .int (iI 0), .int (iI 0), .int (iI 0), .ref (h0 + 12), .ref (h0 + 13), .ref (h0 + 14), .ref (h0 + 15), .ref (h0 + 16), .null, .null]) hC hin in_md ty_md ty_md_ok nm_md hw rfl 21 (by decide) tw_577 rfl rfl rfl rfl (Nat.le_of_ble_eq_true rfl) rfl d_md_init_130 (fun H locs hw => ?_)
  refine lv_aload_n hC.1 hC.2.1 d_md_init_133 rfl (lv_at hl 0 rfl) ?_
  refine lv_sipush (v := iI 248) hC.1 hC.2.1 d_md_init_134 (by decide +kernel) ?_
  refine bm_int hC hw (z := 248) (N := 248) (by decide) (by decide) rfl (Nat.le_of_ble_eq_true rfl) (Nat.le_of_ble_eq_true rfl) (h0 + 17) rfl d_md_init_137 (fun H hw => ?_)
  refine bn_putF (fs2 := [.int (iI 0), .int (iI 0), .ref (h0 + 1), .ref (h0 + 2), .ref (h0 + 3), .ref (h0 + 4), .ref (h0 + 5), .ref (h0 + 6), .ref (h0 + 7), .ref (h0 + 8), .int (iI 0), .ref (h0 + 9), .ref (h0 + 10), .ref (h0 + 11), .int (iI 0), .int (iI 0), .int (iI 0), .ref (h0 + 12), .ref (h0 + 13), .ref (h0 + 14), .ref (h0 + 15), .ref (h0 + 16), .ref (h0 + 17), .null]) hC hin in_md ty_md ty_md_ok nm_md hw rfl 22 (by decide) tw_578 rfl rfl rfl rfl (Nat.le_of_ble_eq_true rfl) rfl d_md_init_139 (fun H locs hw => ?_)
  refine lv_aload_n hC.1 hC.2.1 d_md_init_142 rfl (lv_at hl 0 rfl) ?_
  refine lv_bipush (v := iI 8) hC.1 hC.2.1 d_md_init_143 (by decide +kernel) ?_
  refine bm_int hC hw (z := 8) (N := 8) (by decide) (by decide) rfl (Nat.le_of_ble_eq_true rfl) (Nat.le_of_ble_eq_true rfl) (h0 + 18) rfl d_md_init_145 (fun H hw => ?_)
  refine bn_putF (fs2 := [.int (iI 0), .int (iI 0), .ref (h0 + 1), .ref (h0 + 2), .ref (h0 + 3), .ref (h0 + 4), .ref (h0 + 5), .ref (h0 + 6), .ref (h0 + 7), .ref (h0 + 8), .int (iI 0), .ref (h0 + 9), .ref (h0 + 10), .ref (h0 + 11), .int (iI 0), .int (iI 0), .int (iI 0), .ref (h0 + 12), .ref (h0 + 13), .ref (h0 + 14), .ref (h0 + 15), .ref (h0 + 16), .ref (h0 + 17), .ref (h0 + 18)]) hC hin in_md ty_md ty_md_ok nm_md hw rfl 23 (by decide) tw_579 rfl rfl rfl rfl (Nat.le_of_ble_eq_true rfl) rfl d_md_init_147 (fun H locs hw => ?_)
  exact rt_B hC hr hlk hw rfl ⟨Nat.le_of_ble_eq_true rfl, Nat.le_of_ble_eq_true rfl⟩ d_md_init_150

/-! the law's helpers: each calls one method, and says by a number what was thrown -/
theorem lI_i (x : Int32) : x.toInt64 = lI x.toInt := by
  unfold lI
  exact (Int64.ofInt_int32ToInt x).symm
theorem mtw_of {l : Launch} {y : MethodName} {b : ByteArray} {n : Nat} {ret : Option FieldType} {rm : Room} {As : List Value} {G : Gt} {S : St} {hh : List (Nat × Nat × Nat × Nat)} {Qc : Array Value → State → Outcome → State → Prop} {mc ms : Nat} {free : Addr → Prop} (hy : plainName y.cls = true) (hn : (lg_sl As).length ≤ n)
    (body : ∀ (p : Program) (e : Env) (s : State) (m : MethodId) (below : List Frame) (meth : Method) (c : Code) (ls : Array Slot), l.admits e → CallFix p m c b n s As.toArray tws y.cls → meth.sig.returnType = ret → meth.locks = false → c.exceptionTable.toList.map (fun h => (h.startPc, h.endPc, h.handlerPc, h.catchType)) = hh → wh G S s s.heap [] → exw txs s → ncs s → lv_has ls n (lv_args 0 As) → W p l e rm s m As.toArray below meth c s.heap [] 0 0 (MQ below Qc As.toArray s mc ms free) (F0 m 0 ls [])) :
    Met l y [.codeWith y b n ret hh] rm (va_Pc As (fun U => wu G S U ∧ exw txs U ∧ ncs U)) Qc mc ms free := by
  refine va_MetW (cc := b) (maxL := n) (ret := ret) (hh := hh) hy rfl ?_
  intro p e s m args below meth c s₁ B hml hv
  obtain ⟨rfl, ⟨hK, hP, hD, ht⟩, hx, hnc⟩ := hv
  rw [lg_entry_eq]
  have hts : ∀ w ∈ tws, w.before As.toArray s = true := tw_same (s := s) (U := s) rfl ht
  have hl := lv_entry As (n := n) hn
  obtain ⟨m9, meth9, c9, hn9, h1, h2, h3, h4, h5, -⟩ := Cond.codeWith_spec (atoms_spec (ws := [.codeWith y b n ret hh]) B.pre _ List.mem_cons_self)
  cases B.named.symm.trans hn9
  cases B.method.symm.trans h1
  have hc9 : c9 = c := Option.some.inj (h2.symm.trans (Stand.of_body B).code)
  rw [hc9] at h5
  exact body p e s m below meth c _ (Stand.of_body B).admits ⟨B.exec, B.bytes, hml, findClass_of_methodNamed B.named, hts⟩ B.returns B.notSynchronized h5 ⟨hK, hP, hD, va_S.rf⟩ hx hnc hl
theorem tab_1 {xs : List ExceptionTableEntry} {a b h k : Nat} (e : xs.map (fun h => (h.startPc, h.endPc, h.handlerPc, h.catchType)) = [(a, b, h, k)]) : ∃ x, xs = [x] ∧ x.startPc = a ∧ x.endPc = b ∧ x.handlerPc = h ∧ x.catchType = k := by
  match xs, e with
  | [x], e =>
    simp at e
    exact ⟨x, rfl, e.1, e.2.1, e.2.2.1, e.2.2.2⟩
theorem tab_2 {xs : List ExceptionTableEntry} {a b h k a2 b2 h2 k2 : Nat} (e : xs.map (fun h => (h.startPc, h.endPc, h.handlerPc, h.catchType)) = [(a, b, h, k), (a2, b2, h2, k2)]) : ∃ x y, xs = [x, y] ∧ (x.startPc = a ∧ x.endPc = b ∧ x.handlerPc = h ∧ x.catchType = k) ∧ (y.startPc = a2 ∧ y.endPc = b2 ∧ y.handlerPc = h2 ∧ y.catchType = k2) := by
  match xs, e with
  | [x, y], e =>
    simp at e
    exact ⟨x, y, rfl, e.1, e.2⟩
section HL
variable {p : Program} {l : Launch} {e : Env} {R : Room} {s : State} {m : MethodId} {args : Array Value} {below : List Frame} {meth : Method} {c : Code} {H : Heap} {locs : List Loc} {cells slots : Nat} {Q : State → Prop}
variable {cc : ByteArray} {pc nL : Nat} {ls : Array Slot} {rest : List Value} {G : Gt} {S : St} {own : String}
theorem st_44 {z : Int} (hC : CallFix p m c cc nL s args tws own) (hw : wh G S s H locs) (hdg : decode cc pc = .ok (.lastore, 1))
    (kk : ∀ (H : Heap) (locs : List Loc), wh G (s_up S 44 0 z) s H locs → W p l e R s m args below meth c H locs cells slots Q (F0 m (pc + 1) ls rest)) : W p l e R s m args below meth c H locs cells slots Q (F0 m pc ls (.long (lI z) :: .int (iI 0) :: .ref (G.2.1 44) :: rest)) := by
  refine va_last hC.1 hC.2.1 hw.1 hw.2.1 hw.2.2.1 hw.2.2.2 44 2 (by rw [wd_at G S (by decide)]; rfl) rfl (iI_in (by decide) (by decide) (by decide)) hdg (fun H locs hP hD hS => ?_)
  have e : vp_updL (fun j => lI (S 44 j)) (iI 0).toNatClampNeg (lI z) = fun j => lI (va_up (S 44) 0 z j) := by
    rw [iI_clamp (by decide) (by decide)]
    funext j
    unfold vp_updL va_up
    by_cases hj : j = 0 <;> simp [hj]
  rw [e] at hP hD
  have e2 : ((G.2.1 44, Sum.inl (G.2.2.1 2, 1, Sum.inr (Sum.inl (fun j => lI (va_up (S 44) 0 z j))))) : Nat × va_E) = (G.2.1 44, cellOf G 44 (va_up (S 44) 0 z)) := rfl
  rw [e2, wd_set G S (by decide)] at hP hD
  exact kk H locs ⟨hw.1, hP, hD, hS⟩
theorem ld_44 (hC : CallFix p m c cc nL s args tws own) (hw : wh G S s H locs) (hdg : decode cc pc = .ok (.laload, 1))
    (kk : W p l e R s m args below meth c H locs cells slots Q (F0 m (pc + 1) ls (.long (lI (S 44 0)) :: rest))) : W p l e R s m args below meth c H locs cells slots Q (F0 m pc ls (.int (iI 0) :: .ref (G.2.1 44) :: rest)) := by
  refine va_lald hC.1 hC.2.1 hw.1 hw.2.1 44 2 (by rw [wd_at G S (by decide)]; rfl) rfl (iI_in (by decide) (by decide) (by decide)) hdg ?_
  rw [iI_clamp (by decide) (by decide)]
  exact kk
end HL

theorem kPc_r (S : St) (a b n w : Int) : kPc S a b n w = 0 ∨ kPc S a b n w = 1 ∨ kPc S a b n w = 2 := by unfold kPc; repeat (first | omega | split)
theorem kSh_r (S : St) (a b d : Int) : kSh S a b d = 0 ∨ kSh S a b d = 1 ∨ kSh S a b d = 2 := by unfold kSh; repeat (first | omega | split)
theorem kRo_r (S : St) (sh a b w : Int) : kRo S sh a b w = 0 ∨ kRo S sh a b w = 1 := by unfold kRo; repeat (first | omega | split)
theorem kAs_r (S : St) (sh a b t : Int) : kAs S sh a b t = 0 ∨ kAs S sh a b t = 1 ∨ kAs S sh a b t = 2 := by unfold kAs; repeat (first | omega | split)
theorem kEa_r (S : St) (sh a b t : Int) : kEa S sh a b t = 0 ∨ kEa S sh a b t = 1 := by unfold kEa; repeat (first | omega | split)
theorem kCh_r (S : St) (k t : Int) : kCh S k t = 0 ∨ kCh S k t = 1 := by unfold kCh; repeat (first | omega | split)
theorem kCl_r (S : St) (q a b : Int) : kCl S q a b = 0 ∨ kCl S q a b = 1 ∨ kCl S q a b = 2 := by unfold kCl; repeat (first | omega | split)
theorem kCo_r (w : Int) : kCo w = 0 ∨ kCo w = 1 := by unfold kCo; repeat (first | omega | split)
theorem kAt_r (S : St) (k i w : Int) : kAt S k i w = 0 ∨ kAt S k i w = 3 := by unfold kAt; repeat (first | omega | split)

set_option maxHeartbeats 4000000 in
set_option maxRecDepth 100000 in
theorem c_lw_piece (l : Launch) (hl0 : ∀ e : Env, l.admits e → e.platform.stackTraces = false) (G : Gt) (S : St) (a : Int) (b : Int) (n : Int) (w : Int) (hI : Inv S) (ha : i32 a) (hb : i32 b) (hn : i32 n) (hw : i32 w) : Met l y_lw_piece [.codeWith y_lw_piece b_lw_piece 7 (some .int) [(0, 14, 17, 13), (0, 14, 21, 15)]] { frames := 8, cells := 1, slots := 6, locals := 144 } (va_Pc [.ref (G.2.1 0), .int (iI (a)), .int (iI (b)), .int (iI (n)), .int (iI (w)), .ref (G.2.1 44)] (fun U => wu G S U ∧ exw txs U ∧ ncs U)) (qW G (if kPc S a b n w = 0 then s_up (if kPc S a b n w = 0 then pAdd S a b n w else S) 44 0 (iI (S 1 0)).toInt else if kPc S a b n w = 0 then pAdd S a b n w else S) (kPc S a b n w)) 1 6 (gA G) := by
  have cM := c_cr_piece l hl0 G S a b n w hI ha hb hn hw
  refine mtw_of (by decide +kernel) (Nat.le_of_ble_eq_true rfl) ?_
  intro p e s m below meth c ls hadm hC hr hlk htab hw hxw hnc hl
  have hC : CallFix p m c b_lw_piece 7 s _ tws "ChannelRulesLaw" := hC
  have hl : lv_has ls 7 [(0, .ref (G.2.1 0)), (1, .int (iI (a))), (2, .int (iI (b))), (3, .int (iI (n))), (4, .int (iI (w))), (5, .ref (G.2.1 44))] := hl
  refine lv_aload hC.1 hC.2.1 d_lw_piece_0 (lv_at hl 5 rfl) ?_
  refine lv_iconst (v := iI 0) hC.1 hC.2.1 d_lw_piece_2 rfl ?_
  refine lv_aload_n hC.1 hC.2.1 d_lw_piece_3 rfl (lv_at hl 0 rfl) ?_
  refine lv_iload_n hC.1 hC.2.1 d_lw_piece_4 rfl (lv_at hl 1 rfl) ?_
  refine lv_iload_n hC.1 hC.2.1 d_lw_piece_5 rfl (lv_at hl 2 rfl) ?_
  refine lv_iload_n hC.1 hC.2.1 d_lw_piece_6 rfl (lv_at hl 3 rfl) ?_
  refine lv_iload hC.1 hC.2.1 d_lw_piece_7 (lv_at hl 4 rfl) ?_
  have kr := kPc_r S a b n w
  refine hx_call (hpc := (fun k : Int => if k = 2 then 21 else 17)) (As := [.int (iI (a)), .int (iI (b)), .int (iI (n)), .int (iI (w))]) (rest := [.int (iI 0), .ref (G.2.1 44)]) hC hw hxw tw_6 cM (cv_lw_7 hC rfl rfl (Nat.le_of_ble_eq_true rfl) (Nat.le_of_ble_eq_true rfl)) rfl hl.1 rfl (Nat.le_of_ble_eq_true rfl) d_lw_piece_9 ⟨Nat.le_of_ble_eq_true rfl, Nat.le_of_ble_eq_true rfl⟩ ?_ ?_ ?_
  · intro hk T1 locs1 a1 ce X1 hce hcls hvm
    obtain ⟨x, y, hx, ⟨e1, e2, e3, e4⟩, f1, f2, f3, f4⟩ := tab_2 htab
    by_cases hk2 : kPc S a b n w = 2
    · rw [hk2] at hcls ⊢
      have := fds_2 (own := "ChannelRulesLaw") (X0 := "java/lang/IllegalArgumentException") (X1 := "java/lang/IllegalStateException") X1 (g := F0 m 9 ls [.int (iI 0), .ref (G.2.1 44)]) rfl hC.2.2.2.1 (by rw [e4]; exact hC.2.2.2.2 _ tw_247) (by rw [f4]; exact hC.2.2.2.2 _ tw_248) (by simp [covers, e1, e2]) (by simp [covers, f1, f2]) (by rw [e4]; decide) (by rw [f4]; decide) hx (fun t ht => hnc _ t hcls ht) hce hcls hvm
      rw [f3] at this
      exact this
    · have hk1 : kPc S a b n w = 1 := (by omega)
      rw [hk1] at hcls ⊢
      have := fds_1 (own := "ChannelRulesLaw") (X0 := "java/lang/IllegalArgumentException") X1 (g := F0 m 9 ls [.int (iI 0), .ref (G.2.1 44)]) rfl hC.2.2.2.1 (by rw [e4]; exact hC.2.2.2.2 _ tw_247) (by simp [covers, e1, e2]) (by rw [e4]; decide) hx hce hcls hvm
      rw [e3] at this
      exact this
  · intro hk H locs hw
    refine lv_i2l (v := lI (iI (S 1 0)).toInt) hC.1 hC.2.1 d_lw_piece_12 (lI_i _) ?_
    refine st_44 hC hw d_lw_piece_13 (fun H locs hw => ?_)
    refine lv_goto (tgt := 25) hC.1 hC.2.1 d_lw_piece_14 (by decide) ?_
    refine lv_iconst (v := iI 0) hC.1 hC.2.1 d_lw_piece_25 rfl ?_
    exact rt_W hC hr hlk hw hk.symm (by simp only [if_pos hk]) d_lw_piece_26
  · intro hk H locs x1 hw
    by_cases hk2 : kPc S a b n w = 2
    · show W p l e _ s m _ below meth c H locs 1 6 _ (F0 m (if kPc S a b n w = 2 then 21 else 17) ls [.ref x1])
      rw [if_pos hk2]
      refine lv_astore (lv' := [(6, .ref x1), (0, .ref (G.2.1 0)), (1, .int (iI (a))), (2, .int (iI (b))), (3, .int (iI (n))), (4, .int (iI (w))), (5, .ref (G.2.1 44))]) hC.1 hC.2.1 d_lw_piece_21 hl (by decide) rfl (fun ls hl => ?_)
      refine lv_iconst (v := iI 2) hC.1 hC.2.1 d_lw_piece_23 rfl ?_
      exact rt_W hC hr hlk hw hk2.symm (by simp only [if_neg hk]) d_lw_piece_24
    · show W p l e _ s m _ below meth c H locs 1 6 _ (F0 m (if kPc S a b n w = 2 then 21 else 17) ls [.ref x1])
      rw [if_neg hk2]
      have hk1 : kPc S a b n w = 1 := (by omega)
      refine lv_astore (lv' := [(6, .ref x1), (0, .ref (G.2.1 0)), (1, .int (iI (a))), (2, .int (iI (b))), (3, .int (iI (n))), (4, .int (iI (w))), (5, .ref (G.2.1 44))]) hC.1 hC.2.1 d_lw_piece_17 hl (by decide) rfl (fun ls hl => ?_)
      refine lv_iconst (v := iI 1) hC.1 hC.2.1 d_lw_piece_19 rfl ?_
      exact rt_W hC hr hlk hw hk1.symm (by simp only [if_neg hk]) d_lw_piece_20
set_option maxHeartbeats 4000000 in
set_option maxRecDepth 100000 in
theorem c_lw_ship (l : Launch) (hl0 : ∀ e : Env, l.admits e → e.platform.stackTraces = false) (G : Gt) (S : St) (a : Int) (b : Int) (d : Int) (hI : Inv S) (ha : i32 a) (hb : i32 b) (hd : i32 d) : Met l y_lw_ship [.codeWith y_lw_ship b_lw_ship 6 (some .int) [(0, 12, 15, 13), (0, 12, 19, 15)]] { frames := 8, cells := 1, slots := 6, locals := 143 } (va_Pc [.ref (G.2.1 0), .int (iI (a)), .int (iI (b)), .int (iI (d)), .ref (G.2.1 44)] (fun U => wu G S U ∧ exw txs U ∧ ncs U)) (qW G (if kSh S a b d = 0 then s_up (if kSh S a b d = 0 then sAdd S a b d else S) 44 0 (iI (S 2 0)).toInt else if kSh S a b d = 0 then sAdd S a b d else S) (kSh S a b d)) 1 6 (gA G) := by
  have cM := c_cr_ship l hl0 G S a b d hI ha hb hd
  refine mtw_of (by decide +kernel) (Nat.le_of_ble_eq_true rfl) ?_
  intro p e s m below meth c ls hadm hC hr hlk htab hw hxw hnc hl
  have hC : CallFix p m c b_lw_ship 6 s _ tws "ChannelRulesLaw" := hC
  have hl : lv_has ls 6 [(0, .ref (G.2.1 0)), (1, .int (iI (a))), (2, .int (iI (b))), (3, .int (iI (d))), (4, .ref (G.2.1 44))] := hl
  refine lv_aload hC.1 hC.2.1 d_lw_ship_0 (lv_at hl 4 rfl) ?_
  refine lv_iconst (v := iI 0) hC.1 hC.2.1 d_lw_ship_2 rfl ?_
  refine lv_aload_n hC.1 hC.2.1 d_lw_ship_3 rfl (lv_at hl 0 rfl) ?_
  refine lv_iload_n hC.1 hC.2.1 d_lw_ship_4 rfl (lv_at hl 1 rfl) ?_
  refine lv_iload_n hC.1 hC.2.1 d_lw_ship_5 rfl (lv_at hl 2 rfl) ?_
  refine lv_iload_n hC.1 hC.2.1 d_lw_ship_6 rfl (lv_at hl 3 rfl) ?_
  have kr := kSh_r S a b d
  refine hx_call (hpc := (fun k : Int => if k = 2 then 19 else 15)) (As := [.int (iI (a)), .int (iI (b)), .int (iI (d))]) (rest := [.int (iI 0), .ref (G.2.1 44)]) hC hw hxw tw_6 cM (cv_lw_17 hC rfl rfl (Nat.le_of_ble_eq_true rfl) (Nat.le_of_ble_eq_true rfl)) rfl hl.1 rfl (Nat.le_of_ble_eq_true rfl) d_lw_ship_7 ⟨Nat.le_of_ble_eq_true rfl, Nat.le_of_ble_eq_true rfl⟩ ?_ ?_ ?_
  · intro hk T1 locs1 a1 ce X1 hce hcls hvm
    obtain ⟨x, y, hx, ⟨e1, e2, e3, e4⟩, f1, f2, f3, f4⟩ := tab_2 htab
    by_cases hk2 : kSh S a b d = 2
    · rw [hk2] at hcls ⊢
      have := fds_2 (own := "ChannelRulesLaw") (X0 := "java/lang/IllegalArgumentException") (X1 := "java/lang/IllegalStateException") X1 (g := F0 m 7 ls [.int (iI 0), .ref (G.2.1 44)]) rfl hC.2.2.2.1 (by rw [e4]; exact hC.2.2.2.2 _ tw_247) (by rw [f4]; exact hC.2.2.2.2 _ tw_248) (by simp [covers, e1, e2]) (by simp [covers, f1, f2]) (by rw [e4]; decide) (by rw [f4]; decide) hx (fun t ht => hnc _ t hcls ht) hce hcls hvm
      rw [f3] at this
      exact this
    · have hk1 : kSh S a b d = 1 := (by omega)
      rw [hk1] at hcls ⊢
      have := fds_1 (own := "ChannelRulesLaw") (X0 := "java/lang/IllegalArgumentException") X1 (g := F0 m 7 ls [.int (iI 0), .ref (G.2.1 44)]) rfl hC.2.2.2.1 (by rw [e4]; exact hC.2.2.2.2 _ tw_247) (by simp [covers, e1, e2]) (by rw [e4]; decide) hx hce hcls hvm
      rw [e3] at this
      exact this
  · intro hk H locs hw
    refine lv_i2l (v := lI (iI (S 2 0)).toInt) hC.1 hC.2.1 d_lw_ship_10 (lI_i _) ?_
    refine st_44 hC hw d_lw_ship_11 (fun H locs hw => ?_)
    refine lv_goto (tgt := 23) hC.1 hC.2.1 d_lw_ship_12 (by decide) ?_
    refine lv_iconst (v := iI 0) hC.1 hC.2.1 d_lw_ship_23 rfl ?_
    exact rt_W hC hr hlk hw hk.symm (by simp only [if_pos hk]) d_lw_ship_24
  · intro hk H locs x1 hw
    by_cases hk2 : kSh S a b d = 2
    · show W p l e _ s m _ below meth c H locs 1 6 _ (F0 m (if kSh S a b d = 2 then 19 else 15) ls [.ref x1])
      rw [if_pos hk2]
      refine lv_astore (lv' := [(5, .ref x1), (0, .ref (G.2.1 0)), (1, .int (iI (a))), (2, .int (iI (b))), (3, .int (iI (d))), (4, .ref (G.2.1 44))]) hC.1 hC.2.1 d_lw_ship_19 hl (by decide) rfl (fun ls hl => ?_)
      refine lv_iconst (v := iI 2) hC.1 hC.2.1 d_lw_ship_21 rfl ?_
      exact rt_W hC hr hlk hw hk2.symm (by simp only [if_neg hk]) d_lw_ship_22
    · show W p l e _ s m _ below meth c H locs 1 6 _ (F0 m (if kSh S a b d = 2 then 19 else 15) ls [.ref x1])
      rw [if_neg hk2]
      have hk1 : kSh S a b d = 1 := (by omega)
      refine lv_astore (lv' := [(5, .ref x1), (0, .ref (G.2.1 0)), (1, .int (iI (a))), (2, .int (iI (b))), (3, .int (iI (d))), (4, .ref (G.2.1 44))]) hC.1 hC.2.1 d_lw_ship_15 hl (by decide) rfl (fun ls hl => ?_)
      refine lv_iconst (v := iI 1) hC.1 hC.2.1 d_lw_ship_17 rfl ?_
      exact rt_W hC hr hlk hw hk1.symm (by simp only [if_neg hk]) d_lw_ship_18
set_option maxHeartbeats 4000000 in
set_option maxRecDepth 100000 in
theorem c_lw_route (l : Launch) (hl0 : ∀ e : Env, l.admits e → e.platform.stackTraces = false) (G : Gt) (S : St) (sh : Int) (a : Int) (b : Int) (w : Int) (hI : Inv S) (hsp : ∀ j : Nat, (j : Int) < S 2 0 → 1 ≤ S 15 j) (hsh : i32 sh) (ha : i32 a) (hb : i32 b) (hw : i32 w) : Met l y_lw_route [.codeWith y_lw_route b_lw_route 7 (some .int) [(0, 14, 17, 13)]] { frames := 8, cells := 1, slots := 6, locals := 144 } (va_Pc [.ref (G.2.1 0), .int (iI (sh)), .int (iI (a)), .int (iI (b)), .int (iI (w)), .ref (G.2.1 44)] (fun U => wu G S U ∧ exw txs U ∧ ncs U)) (qW G (if kRo S sh a b w = 0 then s_up (if kRo S sh a b w = 0 then (pRt S sh a b).1 else S) 44 0 (iI (rou S sh a b w)).toInt else if kRo S sh a b w = 0 then (pRt S sh a b).1 else S) (kRo S sh a b w)) 1 6 (gA G) := by
  have cM := c_cr_route l hl0 G S sh a b w hI hsp hsh ha hb hw
  refine mtw_of (by decide +kernel) (Nat.le_of_ble_eq_true rfl) ?_
  intro p e s m below meth c ls hadm hC hr hlk htab hw hxw hnc hl
  have hC : CallFix p m c b_lw_route 7 s _ tws "ChannelRulesLaw" := hC
  have hl : lv_has ls 7 [(0, .ref (G.2.1 0)), (1, .int (iI (sh))), (2, .int (iI (a))), (3, .int (iI (b))), (4, .int (iI (w))), (5, .ref (G.2.1 44))] := hl
  refine lv_aload hC.1 hC.2.1 d_lw_route_0 (lv_at hl 5 rfl) ?_
  refine lv_iconst (v := iI 0) hC.1 hC.2.1 d_lw_route_2 rfl ?_
  refine lv_aload_n hC.1 hC.2.1 d_lw_route_3 rfl (lv_at hl 0 rfl) ?_
  refine lv_iload_n hC.1 hC.2.1 d_lw_route_4 rfl (lv_at hl 1 rfl) ?_
  refine lv_iload_n hC.1 hC.2.1 d_lw_route_5 rfl (lv_at hl 2 rfl) ?_
  refine lv_iload_n hC.1 hC.2.1 d_lw_route_6 rfl (lv_at hl 3 rfl) ?_
  refine lv_iload hC.1 hC.2.1 d_lw_route_7 (lv_at hl 4 rfl) ?_
  have kr := kRo_r S sh a b w
  refine hx_call (hpc := (fun _ : Int => 17)) (As := [.int (iI (sh)), .int (iI (a)), .int (iI (b)), .int (iI (w))]) (rest := [.int (iI 0), .ref (G.2.1 44)]) hC hw hxw tw_6 cM (cv_lw_21 hC rfl rfl (Nat.le_of_ble_eq_true rfl) (Nat.le_of_ble_eq_true rfl)) rfl hl.1 rfl (Nat.le_of_ble_eq_true rfl) d_lw_route_9 ⟨Nat.le_of_ble_eq_true rfl, Nat.le_of_ble_eq_true rfl⟩ ?_ ?_ ?_
  · intro hk T1 locs1 a1 ce X1 hce hcls hvm
    obtain ⟨x, hx, e1, e2, e3, e4⟩ := tab_1 htab
    have hk1 : kRo S sh a b w = 1 := (by omega)
    rw [hk1] at hcls
    have := fds_1 (own := "ChannelRulesLaw") (X0 := "java/lang/IllegalArgumentException") X1 (g := F0 m 9 ls [.int (iI 0), .ref (G.2.1 44)]) rfl hC.2.2.2.1 (by rw [e4]; exact hC.2.2.2.2 _ tw_247) (by simp [covers, e1, e2]) (by rw [e4]; decide) hx hce hcls hvm
    rw [e3] at this
    exact this
  · intro hk H locs hw
    refine lv_i2l (v := lI (iI (rou S sh a b w)).toInt) hC.1 hC.2.1 d_lw_route_12 (lI_i _) ?_
    refine st_44 hC hw d_lw_route_13 (fun H locs hw => ?_)
    refine lv_goto (tgt := 21) hC.1 hC.2.1 d_lw_route_14 (by decide) ?_
    refine lv_iconst (v := iI 0) hC.1 hC.2.1 d_lw_route_21 rfl ?_
    exact rt_W hC hr hlk hw hk.symm (by simp only [if_pos hk]) d_lw_route_22
  · intro hk H locs x1 hw
    have hk1 : kRo S sh a b w = 1 := (by omega)
    refine lv_astore (lv' := [(6, .ref x1), (0, .ref (G.2.1 0)), (1, .int (iI (sh))), (2, .int (iI (a))), (3, .int (iI (b))), (4, .int (iI (w))), (5, .ref (G.2.1 44))]) hC.1 hC.2.1 d_lw_route_17 hl (by decide) rfl (fun ls hl => ?_)
    refine lv_iconst (v := iI 1) hC.1 hC.2.1 d_lw_route_19 rfl ?_
    exact rt_W hC hr hlk hw hk1.symm (by simp only [if_neg hk]) d_lw_route_20
set_option maxHeartbeats 4000000 in
set_option maxRecDepth 100000 in
theorem c_lw_ask (l : Launch) (hl0 : ∀ e : Env, l.admits e → e.platform.stackTraces = false) (G : Gt) (S : St) (sh : Int) (a : Int) (b : Int) (t : Int) (hI : Inv S) (hsp : ∀ j : Nat, (j : Int) < S 2 0 → 1 ≤ S 15 j) (hsh : i32 sh) (ha : i32 a) (hb : i32 b) (ht : i32 t) : Met l y_lw_ask [.codeWith y_lw_ask b_lw_ask 7 (some .int) [(0, 14, 17, 13), (0, 14, 21, 15)]] { frames := 8, cells := 1, slots := 6, locals := 152 } (va_Pc [.ref (G.2.1 0), .int (iI (sh)), .int (iI (a)), .int (iI (b)), .int (iI (t)), .ref (G.2.1 44)] (fun U => wu G S U ∧ exw txs U ∧ ncs U)) (qW G (if kAs S sh a b t = 0 then s_up (if kAs S sh a b t = 0 then askS S sh a b t else S) 44 0 (iI (askR S sh a b t)).toInt else if kAs S sh a b t = 0 then askS S sh a b t else S) (kAs S sh a b t)) 1 6 (gA G) := by
  have cM := c_cr_ask l hl0 G S sh a b t hI hsp hsh ha hb ht
  refine mtw_of (by decide +kernel) (Nat.le_of_ble_eq_true rfl) ?_
  intro p e s m below meth c ls hadm hC hr hlk htab hw hxw hnc hl
  have hC : CallFix p m c b_lw_ask 7 s _ tws "ChannelRulesLaw" := hC
  have hl : lv_has ls 7 [(0, .ref (G.2.1 0)), (1, .int (iI (sh))), (2, .int (iI (a))), (3, .int (iI (b))), (4, .int (iI (t))), (5, .ref (G.2.1 44))] := hl
  refine lv_aload hC.1 hC.2.1 d_lw_ask_0 (lv_at hl 5 rfl) ?_
  refine lv_iconst (v := iI 0) hC.1 hC.2.1 d_lw_ask_2 rfl ?_
  refine lv_aload_n hC.1 hC.2.1 d_lw_ask_3 rfl (lv_at hl 0 rfl) ?_
  refine lv_iload_n hC.1 hC.2.1 d_lw_ask_4 rfl (lv_at hl 1 rfl) ?_
  refine lv_iload_n hC.1 hC.2.1 d_lw_ask_5 rfl (lv_at hl 2 rfl) ?_
  refine lv_iload_n hC.1 hC.2.1 d_lw_ask_6 rfl (lv_at hl 3 rfl) ?_
  refine lv_iload hC.1 hC.2.1 d_lw_ask_7 (lv_at hl 4 rfl) ?_
  have kr := kAs_r S sh a b t
  refine hx_call (hpc := (fun k : Int => if k = 2 then 21 else 17)) (As := [.int (iI (sh)), .int (iI (a)), .int (iI (b)), .int (iI (t))]) (rest := [.int (iI 0), .ref (G.2.1 44)]) hC hw hxw tw_6 cM (cv_lw_24 hC rfl rfl (Nat.le_of_ble_eq_true rfl) (Nat.le_of_ble_eq_true rfl)) rfl hl.1 rfl (Nat.le_of_ble_eq_true rfl) d_lw_ask_9 ⟨Nat.le_of_ble_eq_true rfl, Nat.le_of_ble_eq_true rfl⟩ ?_ ?_ ?_
  · intro hk T1 locs1 a1 ce X1 hce hcls hvm
    obtain ⟨x, y, hx, ⟨e1, e2, e3, e4⟩, f1, f2, f3, f4⟩ := tab_2 htab
    by_cases hk2 : kAs S sh a b t = 2
    · rw [hk2] at hcls ⊢
      have := fds_2 (own := "ChannelRulesLaw") (X0 := "java/lang/IllegalArgumentException") (X1 := "java/lang/IllegalStateException") X1 (g := F0 m 9 ls [.int (iI 0), .ref (G.2.1 44)]) rfl hC.2.2.2.1 (by rw [e4]; exact hC.2.2.2.2 _ tw_247) (by rw [f4]; exact hC.2.2.2.2 _ tw_248) (by simp [covers, e1, e2]) (by simp [covers, f1, f2]) (by rw [e4]; decide) (by rw [f4]; decide) hx (fun t ht => hnc _ t hcls ht) hce hcls hvm
      rw [f3] at this
      exact this
    · have hk1 : kAs S sh a b t = 1 := (by omega)
      rw [hk1] at hcls ⊢
      have := fds_1 (own := "ChannelRulesLaw") (X0 := "java/lang/IllegalArgumentException") X1 (g := F0 m 9 ls [.int (iI 0), .ref (G.2.1 44)]) rfl hC.2.2.2.1 (by rw [e4]; exact hC.2.2.2.2 _ tw_247) (by simp [covers, e1, e2]) (by rw [e4]; decide) hx hce hcls hvm
      rw [e3] at this
      exact this
  · intro hk H locs hw
    refine lv_i2l (v := lI (iI (askR S sh a b t)).toInt) hC.1 hC.2.1 d_lw_ask_12 (lI_i _) ?_
    refine st_44 hC hw d_lw_ask_13 (fun H locs hw => ?_)
    refine lv_goto (tgt := 25) hC.1 hC.2.1 d_lw_ask_14 (by decide) ?_
    refine lv_iconst (v := iI 0) hC.1 hC.2.1 d_lw_ask_25 rfl ?_
    exact rt_W hC hr hlk hw hk.symm (by simp only [if_pos hk]) d_lw_ask_26
  · intro hk H locs x1 hw
    by_cases hk2 : kAs S sh a b t = 2
    · show W p l e _ s m _ below meth c H locs 1 6 _ (F0 m (if kAs S sh a b t = 2 then 21 else 17) ls [.ref x1])
      rw [if_pos hk2]
      refine lv_astore (lv' := [(6, .ref x1), (0, .ref (G.2.1 0)), (1, .int (iI (sh))), (2, .int (iI (a))), (3, .int (iI (b))), (4, .int (iI (t))), (5, .ref (G.2.1 44))]) hC.1 hC.2.1 d_lw_ask_21 hl (by decide) rfl (fun ls hl => ?_)
      refine lv_iconst (v := iI 2) hC.1 hC.2.1 d_lw_ask_23 rfl ?_
      exact rt_W hC hr hlk hw hk2.symm (by simp only [if_neg hk]) d_lw_ask_24
    · show W p l e _ s m _ below meth c H locs 1 6 _ (F0 m (if kAs S sh a b t = 2 then 21 else 17) ls [.ref x1])
      rw [if_neg hk2]
      have hk1 : kAs S sh a b t = 1 := (by omega)
      refine lv_astore (lv' := [(6, .ref x1), (0, .ref (G.2.1 0)), (1, .int (iI (sh))), (2, .int (iI (a))), (3, .int (iI (b))), (4, .int (iI (t))), (5, .ref (G.2.1 44))]) hC.1 hC.2.1 d_lw_ask_17 hl (by decide) rfl (fun ls hl => ?_)
      refine lv_iconst (v := iI 1) hC.1 hC.2.1 d_lw_ask_19 rfl ?_
      exact rt_W hC hr hlk hw hk1.symm (by simp only [if_neg hk]) d_lw_ask_20
set_option maxHeartbeats 4000000 in
set_option maxRecDepth 100000 in
theorem c_lw_earliest (l : Launch) (hl0 : ∀ e : Env, l.admits e → e.platform.stackTraces = false) (G : Gt) (S : St) (sh : Int) (a : Int) (b : Int) (t : Int) (hI : Inv S) (hsp : ∀ j : Nat, (j : Int) < S 2 0 → 1 ≤ S 15 j) (hsh : i32 sh) (ha : i32 a) (hb : i32 b) (ht : i32 t) : Met l y_lw_earliest [.codeWith y_lw_earliest b_lw_earliest 7 (some .int) [(0, 14, 17, 13)]] { frames := 8, cells := 1, slots := 6, locals := 178 } (va_Pc [.ref (G.2.1 0), .int (iI (sh)), .int (iI (a)), .int (iI (b)), .int (iI (t)), .ref (G.2.1 44)] (fun U => wu G S U ∧ exw txs U ∧ ncs U)) (qW G (if kEa S sh a b t = 0 then s_up (if kEa S sh a b t = 0 then (eaP S sh a b t).1 else S) 44 0 (iI ((eaP S sh a b t).2)).toInt else if kEa S sh a b t = 0 then (eaP S sh a b t).1 else S) (kEa S sh a b t)) 1 6 (gA G) := by
  have cM := c_cr_earliest l hl0 G S sh a b t hI hsp hsh ha hb ht
  refine mtw_of (by decide +kernel) (Nat.le_of_ble_eq_true rfl) ?_
  intro p e s m below meth c ls hadm hC hr hlk htab hw hxw hnc hl
  have hC : CallFix p m c b_lw_earliest 7 s _ tws "ChannelRulesLaw" := hC
  have hl : lv_has ls 7 [(0, .ref (G.2.1 0)), (1, .int (iI (sh))), (2, .int (iI (a))), (3, .int (iI (b))), (4, .int (iI (t))), (5, .ref (G.2.1 44))] := hl
  refine lv_aload hC.1 hC.2.1 d_lw_earliest_0 (lv_at hl 5 rfl) ?_
  refine lv_iconst (v := iI 0) hC.1 hC.2.1 d_lw_earliest_2 rfl ?_
  refine lv_aload_n hC.1 hC.2.1 d_lw_earliest_3 rfl (lv_at hl 0 rfl) ?_
  refine lv_iload_n hC.1 hC.2.1 d_lw_earliest_4 rfl (lv_at hl 1 rfl) ?_
  refine lv_iload_n hC.1 hC.2.1 d_lw_earliest_5 rfl (lv_at hl 2 rfl) ?_
  refine lv_iload_n hC.1 hC.2.1 d_lw_earliest_6 rfl (lv_at hl 3 rfl) ?_
  refine lv_iload hC.1 hC.2.1 d_lw_earliest_7 (lv_at hl 4 rfl) ?_
  have kr := kEa_r S sh a b t
  refine hx_call (hpc := (fun _ : Int => 17)) (As := [.int (iI (sh)), .int (iI (a)), .int (iI (b)), .int (iI (t))]) (rest := [.int (iI 0), .ref (G.2.1 44)]) hC hw hxw tw_6 cM (cv_lw_27 hC rfl rfl (Nat.le_of_ble_eq_true rfl) (Nat.le_of_ble_eq_true rfl)) rfl hl.1 rfl (Nat.le_of_ble_eq_true rfl) d_lw_earliest_9 ⟨Nat.le_of_ble_eq_true rfl, Nat.le_of_ble_eq_true rfl⟩ ?_ ?_ ?_
  · intro hk T1 locs1 a1 ce X1 hce hcls hvm
    obtain ⟨x, hx, e1, e2, e3, e4⟩ := tab_1 htab
    have hk1 : kEa S sh a b t = 1 := (by omega)
    rw [hk1] at hcls
    have := fds_1 (own := "ChannelRulesLaw") (X0 := "java/lang/IllegalArgumentException") X1 (g := F0 m 9 ls [.int (iI 0), .ref (G.2.1 44)]) rfl hC.2.2.2.1 (by rw [e4]; exact hC.2.2.2.2 _ tw_247) (by simp [covers, e1, e2]) (by rw [e4]; decide) hx hce hcls hvm
    rw [e3] at this
    exact this
  · intro hk H locs hw
    refine lv_i2l (v := lI (iI ((eaP S sh a b t).2)).toInt) hC.1 hC.2.1 d_lw_earliest_12 (lI_i _) ?_
    refine st_44 hC hw d_lw_earliest_13 (fun H locs hw => ?_)
    refine lv_goto (tgt := 21) hC.1 hC.2.1 d_lw_earliest_14 (by decide) ?_
    refine lv_iconst (v := iI 0) hC.1 hC.2.1 d_lw_earliest_21 rfl ?_
    exact rt_W hC hr hlk hw hk.symm (by simp only [if_pos hk]) d_lw_earliest_22
  · intro hk H locs x1 hw
    have hk1 : kEa S sh a b t = 1 := (by omega)
    refine lv_astore (lv' := [(6, .ref x1), (0, .ref (G.2.1 0)), (1, .int (iI (sh))), (2, .int (iI (a))), (3, .int (iI (b))), (4, .int (iI (t))), (5, .ref (G.2.1 44))]) hC.1 hC.2.1 d_lw_earliest_17 hl (by decide) rfl (fun ls hl => ?_)
    refine lv_iconst (v := iI 1) hC.1 hC.2.1 d_lw_earliest_19 rfl ?_
    exact rt_W hC hr hlk hw hk1.symm (by simp only [if_neg hk]) d_lw_earliest_20
set_option maxHeartbeats 4000000 in
set_option maxRecDepth 100000 in
theorem c_lw_change (l : Launch) (hl0 : ∀ e : Env, l.admits e → e.platform.stackTraces = false) (G : Gt) (S : St) (k : Int) (t : Int) (hI : Inv S) (hk : i32 k) (ht : i32 t) : Met l y_lw_change [.codeWith y_lw_change b_lw_change 5 (some .int) [(0, 10, 13, 13)]] { frames := 8, cells := 1, slots := 6, locals := 150 } (va_Pc [.ref (G.2.1 0), .int (iI (k)), .int (iI (t)), .ref (G.2.1 44)] (fun U => wu G S U ∧ exw txs U ∧ ncs U)) (qW G (if kCh S k t = 0 then s_up (if kCh S k t = 0 then chS S k t else S) 44 0 (iI (chR S k t)).toInt else if kCh S k t = 0 then chS S k t else S) (kCh S k t)) 1 6 (gA G) := by
  have cM := c_cr_change l hl0 G S k t hI hk ht
  refine mtw_of (by decide +kernel) (Nat.le_of_ble_eq_true rfl) ?_
  intro p e s m below meth c ls hadm hC hr hlk htab hw hxw hnc hl
  have hC : CallFix p m c b_lw_change 5 s _ tws "ChannelRulesLaw" := hC
  have hl : lv_has ls 5 [(0, .ref (G.2.1 0)), (1, .int (iI (k))), (2, .int (iI (t))), (3, .ref (G.2.1 44))] := hl
  refine lv_aload_n hC.1 hC.2.1 d_lw_change_0 rfl (lv_at hl 3 rfl) ?_
  refine lv_iconst (v := iI 0) hC.1 hC.2.1 d_lw_change_1 rfl ?_
  refine lv_aload_n hC.1 hC.2.1 d_lw_change_2 rfl (lv_at hl 0 rfl) ?_
  refine lv_iload_n hC.1 hC.2.1 d_lw_change_3 rfl (lv_at hl 1 rfl) ?_
  refine lv_iload_n hC.1 hC.2.1 d_lw_change_4 rfl (lv_at hl 2 rfl) ?_
  have kr := kCh_r S k t
  refine hx_call (hpc := (fun _ : Int => 13)) (As := [.int (iI (k)), .int (iI (t))]) (rest := [.int (iI 0), .ref (G.2.1 44)]) hC hw hxw tw_6 cM (cv_lw_30 hC rfl rfl (Nat.le_of_ble_eq_true rfl) (Nat.le_of_ble_eq_true rfl)) rfl hl.1 rfl (Nat.le_of_ble_eq_true rfl) d_lw_change_5 ⟨Nat.le_of_ble_eq_true rfl, Nat.le_of_ble_eq_true rfl⟩ ?_ ?_ ?_
  · intro hk T1 locs1 a1 ce X1 hce hcls hvm
    obtain ⟨x, hx, e1, e2, e3, e4⟩ := tab_1 htab
    have hk1 : kCh S k t = 1 := (by omega)
    rw [hk1] at hcls
    have := fds_1 (own := "ChannelRulesLaw") (X0 := "java/lang/IllegalArgumentException") X1 (g := F0 m 5 ls [.int (iI 0), .ref (G.2.1 44)]) rfl hC.2.2.2.1 (by rw [e4]; exact hC.2.2.2.2 _ tw_247) (by simp [covers, e1, e2]) (by rw [e4]; decide) hx hce hcls hvm
    rw [e3] at this
    exact this
  · intro hk H locs hw
    refine lv_i2l (v := lI (iI (chR S k t)).toInt) hC.1 hC.2.1 d_lw_change_8 (lI_i _) ?_
    refine st_44 hC hw d_lw_change_9 (fun H locs hw => ?_)
    refine lv_goto (tgt := 17) hC.1 hC.2.1 d_lw_change_10 (by decide) ?_
    refine lv_iconst (v := iI 0) hC.1 hC.2.1 d_lw_change_17 rfl ?_
    exact rt_W hC hr hlk hw hk.symm (by simp only [if_pos hk]) d_lw_change_18
  · intro hk H locs x1 hw
    have hk1 : kCh S k t = 1 := (by omega)
    refine lv_astore (lv' := [(4, .ref x1), (0, .ref (G.2.1 0)), (1, .int (iI (k))), (2, .int (iI (t))), (3, .ref (G.2.1 44))]) hC.1 hC.2.1 d_lw_change_13 hl (by decide) rfl (fun ls hl => ?_)
    refine lv_iconst (v := iI 1) hC.1 hC.2.1 d_lw_change_15 rfl ?_
    exact rt_W hC hr hlk hw hk1.symm (by simp only [if_neg hk]) d_lw_change_16
set_option maxHeartbeats 4000000 in
set_option maxRecDepth 100000 in
theorem c_lw_close (l : Launch) (hl0 : ∀ e : Env, l.admits e → e.platform.stackTraces = false) (G : Gt) (S : St) (q : Int) (a : Int) (b : Int) (hI : Inv S) (hq : i32 q) (ha : i32 a) (hb : i32 b) : Met l y_lw_close [.codeWith y_lw_close b_lw_close 6 (some .int) [(0, 12, 15, 13), (0, 12, 19, 15)]] { frames := 8, cells := 1, slots := 6, locals := 143 } (va_Pc [.ref (G.2.1 0), .int (iI (q)), .int (iI (a)), .int (iI (b)), .ref (G.2.1 44)] (fun U => wu G S U ∧ exw txs U ∧ ncs U)) (qW G (if kCl S q a b = 0 then s_up (if kCl S q a b = 0 then eSt (aSp S q a b) q a b (aSp S q a b 3 0).toNat else S) 44 0 (iI (eCt (aSp S q a b) q a b (aSp S q a b 3 0).toNat)).toInt else if kCl S q a b = 0 then eSt (aSp S q a b) q a b (aSp S q a b 3 0).toNat else S) (kCl S q a b)) 1 6 (gA G) := by
  have cM := c_cr_close l hl0 G S q a b hI hq ha hb
  refine mtw_of (by decide +kernel) (Nat.le_of_ble_eq_true rfl) ?_
  intro p e s m below meth c ls hadm hC hr hlk htab hw hxw hnc hl
  have hC : CallFix p m c b_lw_close 6 s _ tws "ChannelRulesLaw" := hC
  have hl : lv_has ls 6 [(0, .ref (G.2.1 0)), (1, .int (iI (q))), (2, .int (iI (a))), (3, .int (iI (b))), (4, .ref (G.2.1 44))] := hl
  refine lv_aload hC.1 hC.2.1 d_lw_close_0 (lv_at hl 4 rfl) ?_
  refine lv_iconst (v := iI 0) hC.1 hC.2.1 d_lw_close_2 rfl ?_
  refine lv_aload_n hC.1 hC.2.1 d_lw_close_3 rfl (lv_at hl 0 rfl) ?_
  refine lv_iload_n hC.1 hC.2.1 d_lw_close_4 rfl (lv_at hl 1 rfl) ?_
  refine lv_iload_n hC.1 hC.2.1 d_lw_close_5 rfl (lv_at hl 2 rfl) ?_
  refine lv_iload_n hC.1 hC.2.1 d_lw_close_6 rfl (lv_at hl 3 rfl) ?_
  have kr := kCl_r S q a b
  refine hx_call (hpc := (fun k : Int => if k = 2 then 19 else 15)) (As := [.int (iI (q)), .int (iI (a)), .int (iI (b))]) (rest := [.int (iI 0), .ref (G.2.1 44)]) hC hw hxw tw_6 cM (cv_lw_34 hC rfl rfl (Nat.le_of_ble_eq_true rfl) (Nat.le_of_ble_eq_true rfl)) rfl hl.1 rfl (Nat.le_of_ble_eq_true rfl) d_lw_close_7 ⟨Nat.le_of_ble_eq_true rfl, Nat.le_of_ble_eq_true rfl⟩ ?_ ?_ ?_
  · intro hk T1 locs1 a1 ce X1 hce hcls hvm
    obtain ⟨x, y, hx, ⟨e1, e2, e3, e4⟩, f1, f2, f3, f4⟩ := tab_2 htab
    by_cases hk2 : kCl S q a b = 2
    · rw [hk2] at hcls ⊢
      have := fds_2 (own := "ChannelRulesLaw") (X0 := "java/lang/IllegalArgumentException") (X1 := "java/lang/IllegalStateException") X1 (g := F0 m 7 ls [.int (iI 0), .ref (G.2.1 44)]) rfl hC.2.2.2.1 (by rw [e4]; exact hC.2.2.2.2 _ tw_247) (by rw [f4]; exact hC.2.2.2.2 _ tw_248) (by simp [covers, e1, e2]) (by simp [covers, f1, f2]) (by rw [e4]; decide) (by rw [f4]; decide) hx (fun t ht => hnc _ t hcls ht) hce hcls hvm
      rw [f3] at this
      exact this
    · have hk1 : kCl S q a b = 1 := (by omega)
      rw [hk1] at hcls ⊢
      have := fds_1 (own := "ChannelRulesLaw") (X0 := "java/lang/IllegalArgumentException") X1 (g := F0 m 7 ls [.int (iI 0), .ref (G.2.1 44)]) rfl hC.2.2.2.1 (by rw [e4]; exact hC.2.2.2.2 _ tw_247) (by simp [covers, e1, e2]) (by rw [e4]; decide) hx hce hcls hvm
      rw [e3] at this
      exact this
  · intro hk H locs hw
    refine lv_i2l (v := lI (iI (eCt (aSp S q a b) q a b (aSp S q a b 3 0).toNat)).toInt) hC.1 hC.2.1 d_lw_close_10 (lI_i _) ?_
    refine st_44 hC hw d_lw_close_11 (fun H locs hw => ?_)
    refine lv_goto (tgt := 23) hC.1 hC.2.1 d_lw_close_12 (by decide) ?_
    refine lv_iconst (v := iI 0) hC.1 hC.2.1 d_lw_close_23 rfl ?_
    exact rt_W hC hr hlk hw hk.symm (by simp only [if_pos hk]) d_lw_close_24
  · intro hk H locs x1 hw
    by_cases hk2 : kCl S q a b = 2
    · show W p l e _ s m _ below meth c H locs 1 6 _ (F0 m (if kCl S q a b = 2 then 19 else 15) ls [.ref x1])
      rw [if_pos hk2]
      refine lv_astore (lv' := [(5, .ref x1), (0, .ref (G.2.1 0)), (1, .int (iI (q))), (2, .int (iI (a))), (3, .int (iI (b))), (4, .ref (G.2.1 44))]) hC.1 hC.2.1 d_lw_close_19 hl (by decide) rfl (fun ls hl => ?_)
      refine lv_iconst (v := iI 2) hC.1 hC.2.1 d_lw_close_21 rfl ?_
      exact rt_W hC hr hlk hw hk2.symm (by simp only [if_neg hk]) d_lw_close_22
    · show W p l e _ s m _ below meth c H locs 1 6 _ (F0 m (if kCl S q a b = 2 then 19 else 15) ls [.ref x1])
      rw [if_neg hk2]
      have hk1 : kCl S q a b = 1 := (by omega)
      refine lv_astore (lv' := [(5, .ref x1), (0, .ref (G.2.1 0)), (1, .int (iI (q))), (2, .int (iI (a))), (3, .int (iI (b))), (4, .ref (G.2.1 44))]) hC.1 hC.2.1 d_lw_close_15 hl (by decide) rfl (fun ls hl => ?_)
      refine lv_iconst (v := iI 1) hC.1 hC.2.1 d_lw_close_17 rfl ?_
      exact rt_W hC hr hlk hw hk1.symm (by simp only [if_neg hk]) d_lw_close_18
set_option maxHeartbeats 4000000 in
set_option maxRecDepth 100000 in
theorem c_lw_conflict (l : Launch) (hl0 : ∀ e : Env, l.admits e → e.platform.stackTraces = false) (G : Gt) (S : St) (i : Int) (w : Int) (hI : Inv S) (hi : i32 i) (hw : i32 w) : Met l y_lw_conflict [.codeWith y_lw_conflict b_lw_conflict 5 (some .int) [(0, 10, 13, 13)]] { frames := 8, cells := 1, slots := 6, locals := 152 } (va_Pc [.ref (G.2.1 0), .int (iI (i)), .int (iI (w)), .ref (G.2.1 44)] (fun U => wu G S U ∧ exw txs U ∧ ncs U)) (qW G (if kCo w = 0 then s_up (if kCo w = 0 then coS S i else S) 44 0 (iI (coR S i w)).toInt else if kCo w = 0 then coS S i else S) (kCo w)) 1 6 (gA G) := by
  have cM := c_cr_conflict l hl0 G S i w hI hi hw
  refine mtw_of (by decide +kernel) (Nat.le_of_ble_eq_true rfl) ?_
  intro p e s m below meth c ls hadm hC hr hlk htab hw hxw hnc hl
  have hC : CallFix p m c b_lw_conflict 5 s _ tws "ChannelRulesLaw" := hC
  have hl : lv_has ls 5 [(0, .ref (G.2.1 0)), (1, .int (iI (i))), (2, .int (iI (w))), (3, .ref (G.2.1 44))] := hl
  refine lv_aload_n hC.1 hC.2.1 d_lw_conflict_0 rfl (lv_at hl 3 rfl) ?_
  refine lv_iconst (v := iI 0) hC.1 hC.2.1 d_lw_conflict_1 rfl ?_
  refine lv_aload_n hC.1 hC.2.1 d_lw_conflict_2 rfl (lv_at hl 0 rfl) ?_
  refine lv_iload_n hC.1 hC.2.1 d_lw_conflict_3 rfl (lv_at hl 1 rfl) ?_
  refine lv_iload_n hC.1 hC.2.1 d_lw_conflict_4 rfl (lv_at hl 2 rfl) ?_
  have kr := kCo_r w
  refine hx_call (hpc := (fun _ : Int => 13)) (As := [.int (iI (i)), .int (iI (w))]) (rest := [.int (iI 0), .ref (G.2.1 44)]) hC hw hxw tw_6 cM (cv_lw_37 hC rfl rfl (Nat.le_of_ble_eq_true rfl) (Nat.le_of_ble_eq_true rfl)) rfl hl.1 rfl (Nat.le_of_ble_eq_true rfl) d_lw_conflict_5 ⟨Nat.le_of_ble_eq_true rfl, Nat.le_of_ble_eq_true rfl⟩ ?_ ?_ ?_
  · intro hk T1 locs1 a1 ce X1 hce hcls hvm
    obtain ⟨x, hx, e1, e2, e3, e4⟩ := tab_1 htab
    have hk1 : kCo w = 1 := (by omega)
    rw [hk1] at hcls
    have := fds_1 (own := "ChannelRulesLaw") (X0 := "java/lang/IllegalArgumentException") X1 (g := F0 m 5 ls [.int (iI 0), .ref (G.2.1 44)]) rfl hC.2.2.2.1 (by rw [e4]; exact hC.2.2.2.2 _ tw_247) (by simp [covers, e1, e2]) (by rw [e4]; decide) hx hce hcls hvm
    rw [e3] at this
    exact this
  · intro hk H locs hw
    refine lv_i2l (v := lI (iI (coR S i w)).toInt) hC.1 hC.2.1 d_lw_conflict_8 (lI_i _) ?_
    refine st_44 hC hw d_lw_conflict_9 (fun H locs hw => ?_)
    refine lv_goto (tgt := 17) hC.1 hC.2.1 d_lw_conflict_10 (by decide) ?_
    refine lv_iconst (v := iI 0) hC.1 hC.2.1 d_lw_conflict_17 rfl ?_
    exact rt_W hC hr hlk hw hk.symm (by simp only [if_pos hk]) d_lw_conflict_18
  · intro hk H locs x1 hw
    have hk1 : kCo w = 1 := (by omega)
    refine lv_astore (lv' := [(4, .ref x1), (0, .ref (G.2.1 0)), (1, .int (iI (i))), (2, .int (iI (w))), (3, .ref (G.2.1 44))]) hC.1 hC.2.1 d_lw_conflict_13 hl (by decide) rfl (fun ls hl => ?_)
    refine lv_iconst (v := iI 1) hC.1 hC.2.1 d_lw_conflict_15 rfl ?_
    exact rt_W hC hr hlk hw hk1.symm (by simp only [if_neg hk]) d_lw_conflict_16
set_option maxHeartbeats 4000000 in
set_option maxRecDepth 100000 in
theorem c_lw_at (l : Launch) (hl0 : ∀ e : Env, l.admits e → e.platform.stackTraces = false) (G : Gt) (S : St) (k : Int) (i : Int) (w : Int) (hI : Inv S) (hk : i32 k) (hi : i32 i) (hw : i32 w) : Met l y_lw_at [.codeWith y_lw_at b_lw_at 6 (some .int) [(0, 12, 15, 43)]] { frames := 8, cells := 1, slots := 6, locals := 143 } (va_Pc [.ref (G.2.1 0), .int (iI (k)), .int (iI (i)), .int (iI (w)), .ref (G.2.1 44)] (fun U => wu G S U ∧ exw txs U ∧ ncs U)) (qW G (if kAt S k i w = 0 then s_up (S) 44 0 (iI (atR S k i w)).toInt else S) (if kAt S k i w = 0 then 0 else 1)) 1 6 (gA G) := by
  have cM := c_cr_at l hl0 G S k i w hI hk hi hw
  refine mtw_of (by decide +kernel) (Nat.le_of_ble_eq_true rfl) ?_
  intro p e s m below meth c ls hadm hC hr hlk htab hw hxw hnc hl
  have hC : CallFix p m c b_lw_at 6 s _ tws "ChannelRulesLaw" := hC
  have hl : lv_has ls 6 [(0, .ref (G.2.1 0)), (1, .int (iI (k))), (2, .int (iI (i))), (3, .int (iI (w))), (4, .ref (G.2.1 44))] := hl
  refine lv_aload hC.1 hC.2.1 d_lw_at_0 (lv_at hl 4 rfl) ?_
  refine lv_iconst (v := iI 0) hC.1 hC.2.1 d_lw_at_2 rfl ?_
  refine lv_aload_n hC.1 hC.2.1 d_lw_at_3 rfl (lv_at hl 0 rfl) ?_
  refine lv_iload_n hC.1 hC.2.1 d_lw_at_4 rfl (lv_at hl 1 rfl) ?_
  refine lv_iload_n hC.1 hC.2.1 d_lw_at_5 rfl (lv_at hl 2 rfl) ?_
  refine lv_iload_n hC.1 hC.2.1 d_lw_at_6 rfl (lv_at hl 3 rfl) ?_
  have kr := kAt_r S k i w
  refine hx_call (hpc := (fun _ : Int => 15)) (As := [.int (iI (k)), .int (iI (i)), .int (iI (w))]) (rest := [.int (iI 0), .ref (G.2.1 44)]) hC hw hxw tw_6 cM (cv_lw_40 hC rfl rfl (Nat.le_of_ble_eq_true rfl) (Nat.le_of_ble_eq_true rfl)) rfl hl.1 rfl (Nat.le_of_ble_eq_true rfl) d_lw_at_7 ⟨Nat.le_of_ble_eq_true rfl, Nat.le_of_ble_eq_true rfl⟩ ?_ ?_ ?_
  · intro hk T1 locs1 a1 ce X1 hce hcls hvm
    obtain ⟨x, hx, e1, e2, e3, e4⟩ := tab_1 htab
    have hk1 : kAt S k i w = 3 := (by omega)
    rw [hk1] at hcls
    have := fds_1 (own := "ChannelRulesLaw") (X0 := "java/lang/IndexOutOfBoundsException") X1 (g := F0 m 7 ls [.int (iI 0), .ref (G.2.1 44)]) rfl hC.2.2.2.1 (by rw [e4]; exact hC.2.2.2.2 _ tw_529) (by simp [covers, e1, e2]) (by rw [e4]; decide) hx hce hcls hvm
    rw [e3] at this
    exact this
  · intro hk H locs hw
    refine lv_i2l (v := lI (iI (atR S k i w)).toInt) hC.1 hC.2.1 d_lw_at_10 (lI_i _) ?_
    refine st_44 hC hw d_lw_at_11 (fun H locs hw => ?_)
    refine lv_goto (tgt := 19) hC.1 hC.2.1 d_lw_at_12 (by decide) ?_
    refine lv_iconst (v := iI 0) hC.1 hC.2.1 d_lw_at_19 rfl ?_
    exact rt_W hC hr hlk hw (by rw [if_pos hk]) (by simp only [if_pos hk]) d_lw_at_20
  · intro hk H locs x1 hw
    refine lv_astore (lv' := [(5, .ref x1), (0, .ref (G.2.1 0)), (1, .int (iI (k))), (2, .int (iI (i))), (3, .int (iI (w))), (4, .ref (G.2.1 44))]) hC.1 hC.2.1 d_lw_at_15 hl (by decide) rfl (fun ls hl => ?_)
    refine lv_iconst (v := iI 1) hC.1 hC.2.1 d_lw_at_17 rfl ?_
    exact rt_W hC hr hlk hw (by rw [if_neg hk]) (by simp only [if_neg hk]) d_lw_at_18

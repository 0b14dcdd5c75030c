/-! THE CLAIM OUT OF ONE WALK OF THE LAW'S BODY. Your part is whole_start (and what it stands on); all else here is the same for every law, but numbers. -/
def R_law : String := "ChannelRulesLaw"
def lw_P (b : Addr) (xs : List Int32) (args : Array Value) (s : State) : Prop := args = #[.ref b] ∧ s.IntsAt b xs ∧ xs.length ≤ 2560 ∧ (Jvm.Cond.and given_1 narrow_1).before args s = true
def lw_Q (_ : Array Value) (s : State) (o : Outcome) (t : State) : Prop := o = .returned (some (.int 1)) ∧ Framed s o t [] 1083 10652
def lw_Z (below : List Frame) (a : Array Value) (s : State) : State → Prop := fun t => ∃ o, t.status = .running ∧ Ended t below o ∧ lw_Q a s o t
/-- the law's own end, with 1 on the stack, nothing written that was there before, its room as the claim has it -/
theorem lw_ret {p : Program} {l : Launch} {e : Env} {s : State} {m : MethodId} {below : List Frame} {meth : Method} {c : Code} {b : Nat} (hx : p.tables.exec = Jvm.exec) (hb : c.code = code) (hr : meth.sig.returnType = ret) (hlocks : meth.locks = false) {pc : Nat} {H : Heap} {ls : Array Slot} (hdg : decode code pc = .ok (.ireturn, 1)) : W p l e room_1 s m #[Value.ref b] below meth c H [] 1083 10652 (lw_Z below #[Value.ref b] s) (F0 m pc ls [.int 1]) := by
  intro T hT X
  obtain ⟨fs, hret, hrun, hended, hW, hframe⟩ := X.leave (v := some (.int 1)) (hlocks := hlocks) (fun h => by rw [hr] at h; cases h)
  have hmeth' : T.vm.method? m = some meth := X.method'
  refine ⟨T.setFrames fs, ?_, .returned (some (.int 1)), hrun, hended, rfl, ⟨_, rfl⟩, hW, hframe⟩
  jvm_step X.here [X.here.top, hx, hb, hdg, hmeth', hr, ret, narrow_b1]
  (try refine ⟨rfl, ?_⟩); (try refine ⟨rfl, ?_⟩)
  first | (intro acts; rw [hret _ acts rfl rfl rfl]) | rw [hret _ _ rfl rfl rfl]
  exact Steps.refl _
/-- what holds at the law's entry: the machine, the code, the tables' words (any of lw_tbl by 'hts w (by decide +kernel)'), the script of L ints xs at the cell b, what the Statement gives of the start (any of its parts by flat_of_before) -/
def lw_At (p : Program) (s : State) (m : MethodId) (meth : Method) (c : Code) (b L : Nat) (xs : Nat → Int32) : Prop :=
  p.tables.exec = Jvm.exec ∧ c.code = code ∧ meth.sig.returnType = ret ∧ c.maxLocals = 7 ∧ s.vm.findClass R_law = some m.cls ∧ (∀ w ∈ lw_tbl, w.before #[Value.ref b] s = true) ∧ va_X b L xs s s.heap ∧ b < s.heap.size ∧ meth.locks = false ∧ (Jvm.Cond.and given_1 narrow_1).before #[Value.ref b] s = true
set_option maxHeartbeats 4000000 in
/-- the law's loop: from its head, with class and reference alike, to its end -/
theorem lw_loop {p : Program} {l : Launch} {e : Env} {s : State} {m : MethodId} {below : List Frame} {meth : Method} {c : Code} {b L : Nat} {xs : Nat → Int32} {G : Gt} (hK : LwC p l s m c b L xs G) (hr : meth.sig.returnType = ret) (hlk : meth.locks = false) :
    ∀ (n j : Nat) (S : St) (H : Heap) (locs : List Loc) (ls : Array Slot), L ≤ 5 * j + 5 * n → 5 * j ≤ L + 5 → Rel S → wh G S s H locs → lv_has ls 7 [(0, Value.ref b), (1, Value.ref (G.2.1 0)), (2, Value.ref (G.2.1 25)), (3, Value.ref (G.2.1 44)), (4, Value.int (iI (5 * (j : Int))))] → W p l e room_1 s m #[Value.ref b] below meth c H locs (45 + j) (2376 + 6 * j) (lw_Z below #[Value.ref b] s) (F0 m 23 ls []) := by
  have hC := hK.1
  have hX := hK.2.1
  have hbl := hK.2.2.1
  have hG := hK.2.2.2.1
  have hLb := hK.2.2.2.2.2.2.2.2
  intro n
  induction n with
  | zero =>
    intro j S H locs ls hn hj5 hR hw hl
    refine lv_iload hC.1 hC.2.1 d_lw_law_23 (lv_at hl 4 rfl) ?_
    refine lv_aload_n hC.1 hC.2.1 d_lw_law_25 rfl (lv_at hl 0 rfl) ?_
    refine va_slen hC.1 hC.2.1 hX hbl (show ¬ G.2.2.2 ≤ b by omega) hw.2.2.2 d_lw_law_26 ?_
    rw [← iI_nat]
    refine lv_iconst (v := iI 5) hC.1 hC.2.1 d_lw_law_27 rfl ?_
    refine ir_sub hC.1 hC.2.1 d_lw_law_28 ?_
    refine ir_gt (tgt := 1023) hC.1 hC.2.1 d_lw_law_29 (by decide) ⟨by omega, by omega⟩ ⟨by omega, by omega⟩ (fun h => ?_) (fun h => absurd h (by omega))
    refine lv_iconst (v := 1) hC.1 hC.2.1 d_lw_law_1023 rfl ?_
    refine va_forget (fun q hq => by have h9 : G.2.2.2 ≤ q.base := hw.2.2.2.2.2 q hq; omega) ?_
    refine W.widen (k := 1083) (n := 10652) (by omega) (by omega) ?_
    exact lw_ret hC.1 hC.2.1 hr hlk d_lw_law_1024
  | succ n ih =>
    intro j S H locs ls hn hj5 hR hw hl
    refine lv_iload hC.1 hC.2.1 d_lw_law_23 (lv_at hl 4 rfl) ?_
    refine lv_aload_n hC.1 hC.2.1 d_lw_law_25 rfl (lv_at hl 0 rfl) ?_
    refine va_slen hC.1 hC.2.1 hX hbl (show ¬ G.2.2.2 ≤ b by omega) hw.2.2.2 d_lw_law_26 ?_
    rw [← iI_nat]
    refine lv_iconst (v := iI 5) hC.1 hC.2.1 d_lw_law_27 rfl ?_
    refine ir_sub hC.1 hC.2.1 d_lw_law_28 ?_
    refine ir_gt (tgt := 1023) hC.1 hC.2.1 d_lw_law_29 (by decide) ⟨by omega, by omega⟩ ⟨by omega, by omega⟩ (fun h => ?_) (fun h => ?_)
    · refine lv_iconst (v := 1) hC.1 hC.2.1 d_lw_law_1023 rfl ?_
      refine va_forget (fun q hq => by have h9 : G.2.2.2 ≤ q.base := hw.2.2.2.2.2 q hq; omega) ?_
      refine W.widen (k := 1083) (n := 10652) (by omega) (by omega) ?_
      exact lw_ret hC.1 hC.2.1 hr hlk d_lw_law_1024
    · have hj : 5 * j + 5 ≤ L := by omega
      have hcl : 45 + j + 1 ≤ 1083 ∧ 2376 + 6 * j + 6 ≤ 10652 := ⟨by omega, by omega⟩
      have K : ∀ (S' : St) (H : Heap) (locs : List Loc) (ls : Array Slot), Rel S' → wh G S' s H locs → lv_has ls 7 [(0, Value.ref b), (1, Value.ref (G.2.1 0)), (2, Value.ref (G.2.1 25)), (3, Value.ref (G.2.1 44)), (4, Value.int (iI (5 * (j : Int))))] → W p l e room_1 s m #[Value.ref b] below meth c H locs (45 + j + 1) (2376 + 6 * j + 6) (lw_Z below #[Value.ref b] s) (F0 m 1017 ls []) := by
        intro S' H locs ls hR hw hl
        have e5 : iI (5 * (j : Int)) + Int32.ofInt 5 = iI (5 * ((j + 1 : Nat) : Int)) := by
          show iI (5 * (j : Int)) + iI 5 = _
          rw [iI_add, show 5 * (j : Int) + 5 = 5 * ((j + 1 : Nat) : Int) by omega]
        refine lv_iinc (k := 4) (v := iI (5 * ((j + 1 : Nat) : Int))) (lv' := [(4, Value.int (iI (5 * ((j + 1 : Nat) : Int)))), (0, Value.ref b), (1, Value.ref (G.2.1 0)), (2, Value.ref (G.2.1 25)), (3, Value.ref (G.2.1 44))]) hC.1 hC.2.1 d_lw_law_1017 hl rfl e5 (by decide) rfl (fun ls hl => ?_)
        refine lv_goto (tgt := 23) hC.1 hC.2.1 d_lw_law_1020 (by decide) ?_
        refine W.widen (k := 45 + (j + 1)) (n := 2376 + 6 * (j + 1)) (by omega) (by omega) ?_
        exact ih (j + 1) S' H locs ls (by omega) (by omega) hR hw (lv_sub hl [1, 2, 3, 4, 0] rfl)
      refine lv_aload_n hC.1 hC.2.1 d_lw_law_32 rfl (lv_at hl 0 rfl) ?_
      refine lv_iload hC.1 hC.2.1 d_lw_law_33 (lv_at hl 4 rfl) ?_
      refine sl_ld hK hw (z := 5 * (j : Int)) (by omega) (by omega) d_lw_law_35 ?_
      refine lv_bipush (v := iI 15) hC.1 hC.2.1 d_lw_law_36 (by decide +kernel) ?_
      refine lv_iand hC.1 hC.2.1 d_lw_law_38 ?_
      generalize iI (xs (5 * (j : Int)).toNat).toInt &&& iI 15 = v
      rw [iI_of v]
      have hv := iI_b v
      generalize v.toInt = z at hv ⊢
      by_cases c0 : z = 0
      · refine ir_tin (tgt := 108) hC d_lw_law_39 hv 0 (by omega) (by omega) rfl (by decide) ?_
        exact lc_piece hK hR hj hw hl hcl K
      by_cases c1 : z = 1
      · refine ir_tin (tgt := 200) hC d_lw_law_39 hv 1 (by omega) (by omega) rfl (by decide) ?_
        exact lc_rule hK hR hj hw hl hcl K
      by_cases c2 : z = 2
      · refine ir_tin (tgt := 249) hC d_lw_law_39 hv 2 (by omega) (by omega) rfl (by decide) ?_
        exact lc_wind hK hR hj hw hl hcl K
      by_cases c3 : z = 3
      · refine ir_tin (tgt := 290) hC d_lw_law_39 hv 3 (by omega) (by omega) rfl (by decide) ?_
        exact lc_ship hK hR hj hw hl hcl K
      by_cases c4 : z = 4
      · refine ir_tin (tgt := 370) hC d_lw_law_39 hv 4 (by omega) (by omega) rfl (by decide) ?_
        exact lc_route hK hR hj hw hl hcl K
      by_cases c5 : z = 5
      · refine ir_tin (tgt := 462) hC d_lw_law_39 hv 5 (by omega) (by omega) rfl (by decide) ?_
        exact lc_ask hK hR hj hw hl hcl K
      by_cases c6 : z = 6
      · refine ir_tin (tgt := 554) hC d_lw_law_39 hv 6 (by omega) (by omega) rfl (by decide) ?_
        exact lc_earliest hK hR hj hw hl hcl K
      by_cases c7 : z = 7
      · refine ir_tin (tgt := 646) hC d_lw_law_39 hv 7 (by omega) (by omega) rfl (by decide) ?_
        exact lc_change hK hR hj hw hl hcl K
      by_cases c8 : z = 8
      · refine ir_tin (tgt := 714) hC d_lw_law_39 hv 8 (by omega) (by omega) rfl (by decide) ?_
        exact lc_back hK hR hj hw hl hcl K
      by_cases c9 : z = 9
      · refine ir_tin (tgt := 739) hC d_lw_law_39 hv 9 (by omega) (by omega) rfl (by decide) ?_
        exact lc_close hK hR hj hw hl hcl K
      by_cases c10 : z = 10
      · refine ir_tin (tgt := 819) hC d_lw_law_39 hv 10 (by omega) (by omega) rfl (by decide) ?_
        exact lc_tick hK hR hj hw hl hcl K
      by_cases c11 : z = 11
      · refine ir_tin (tgt := 844) hC d_lw_law_39 hv 11 (by omega) (by omega) rfl (by decide) ?_
        exact lc_conflict hK hR hj hw hl hcl K
      by_cases c12 : z = 12
      · refine ir_tin (tgt := 912) hC d_lw_law_39 hv 12 (by omega) (by omega) rfl (by decide) ?_
        exact lc_at hK hR hj hw hl hcl K
      by_cases c13 : z = 13
      · refine ir_tin (tgt := 992) hC d_lw_law_39 hv 13 (by omega) (by omega) rfl (by decide) ?_
        exact lc_count hK hR hj hw hl hcl K
      refine ir_tout (tgt := 1017) hC d_lw_law_39 hv (by omega) (by decide) ?_
      refine W.widen (k := 45 + j + 1) (n := 2376 + 6 * j + 6) (by omega) (by omega) ?_
      exact K S H locs ls hR hw hl
set_option maxHeartbeats 4000000 in
set_option maxRecDepth 100000 in
/-- from the entry, for every script of at most 2560 ints, the law comes to its end with true -/
theorem whole_start {p : Program} {e : Env} {s : State} {m : MethodId} {below : List Frame} {meth : Method} {c : Code} (l : Launch) (hl0 : ∀ e : Env, l.admits e → e.platform.stackTraces = false) {b L : Nat} {xs : Nat → Int32} (hL : L ≤ 2560) (C0 : lw_At p s m meth c b L xs) : W p l e room_1 s m #[Value.ref b] below meth c s.heap [] 0 0 (lw_Z below #[Value.ref b] s) (entryFrame m ([Value.ref b] : List Value).toArray 7) := by
  obtain ⟨hx, hb, hr, hml, hown, hts, hX, hbl, hlk, hgv⟩ := C0
  have hF := flat_of_before _ hgv
  have hts2 : ∀ w ∈ tws, w.before #[Value.ref b] s = true := fun w hw => hts w (List.mem_filter.mp hw).1
  obtain ⟨D, acl, hK⟩ := st_known hts2
  obtain ⟨G, hGe⟩ : ∃ G : Gt, G = (D, adr s.heap.size, acl, s.heap.size) := ⟨_, rfl⟩
  have hG : G.2.2.2 = s.heap.size := by rw [hGe]
  have hC : CallFix p m c code 7 s #[Value.ref b] tws "ChannelRulesLaw" := ⟨hx, hb, hml, hown, hts2⟩
  have hK1 : LwC p l s m c b L xs G := ⟨hC, hX, hbl, hG, st_exw hts hF, st_ncs (hF (Cond.not (Cond.castable "java/lang/IllegalStateException" "java/lang/IllegalArgumentException")) (by decide +kernel)), st_gvt hG hts hF, hl0, hL⟩
  have hl := lv_entry [Value.ref b] (n := 7) (Nat.le_of_ble_eq_true rfl)
  rw [lg_entry_eq]
  generalize (lg_sl ([Value.ref b]) ++ List.replicate (7 - (lg_sl ([Value.ref b])).length) Slot.unset).toArray = ls at hl ⊢
  have hl : lv_has ls 7 [(0, Value.ref b)] := hl
  have hw : cwd G s.heap.size [] s s.heap [] := ⟨by rw [hGe]; exact hK, fun k q hk => (by cases hk), sq_nil, rfl, va_S.rf, Nat.le_refl _⟩
  refine bn_new (ci := 3) (fs := [.null, .null, .null, .null, .null, .int (iI 0), .int (iI 0)]) hC in_cr ty_cr ty_cr_ok tw_13 tw_14 tw_1 hw rfl (fun j hj => by rcases (show j = 0 ∨ j = 1 ∨ j = 2 ∨ j = 3 ∨ j = 4 ∨ j = 5 ∨ j = 6 by omega) with rfl | rfl | rfl | rfl | rfl | rfl | rfl <;> rfl) (Nat.le_of_ble_eq_true rfl) (Nat.le_of_ble_eq_true rfl) s.heap.size rfl d_lw_law_0 (fun H hw => ?_)
  refine lv_dup hC.1 hC.2.1 d_lw_law_3 rfl ?_
  refine ca_C (w0 := []) (rest := [.ref s.heap.size]) hC hw (c_cr_init l G s.heap.size) (mkB hC 0 tw_17 tw_1 tw_15 rfl rfl (by decide +kernel) (Nat.le_of_ble_eq_true rfl) (Nat.le_of_ble_eq_true rfl)) rfl tw_16 (sq_cr G _) (by rw [ln_cr]; decide) hl.1 rfl (Nat.le_of_ble_eq_true rfl) d_lw_law_4 ⟨Nat.le_of_ble_eq_true rfl, Nat.le_of_ble_eq_true rfl⟩ (fun H locs hw => ?_)
  rw [List.nil_append] at hw
  refine lv_astore_n (lv' := [(1, Value.ref s.heap.size), (0, Value.ref b)]) hC.1 hC.2.1 d_lw_law_7 rfl hl (by decide) rfl (fun ls hl => ?_)
  refine bn_new (ci := 4) (fs := [.int (iI 0), .int (iI 0), .null, .null, .null, .null, .null, .null, .null, .null, .int (iI 0), .null, .null, .null, .int (iI 0), .int (iI 0), .int (iI 0), .null, .null, .null, .null, .null, .null, .null]) hC in_md ty_md ty_md_ok tw_550 tw_551 tw_5 hw rfl (fun j hj => by rcases (show j = 0 ∨ j = 1 ∨ j = 2 ∨ j = 3 ∨ j = 4 ∨ j = 5 ∨ j = 6 ∨ j = 7 ∨ j = 8 ∨ j = 9 ∨ j = 10 ∨ j = 11 ∨ j = 12 ∨ j = 13 ∨ j = 14 ∨ j = 15 ∨ j = 16 ∨ j = 17 ∨ j = 18 ∨ j = 19 ∨ j = 20 ∨ j = 21 ∨ j = 22 ∨ j = 23 by omega) with rfl | rfl | rfl | rfl | rfl | rfl | rfl | rfl | rfl | rfl | rfl | rfl | rfl | rfl | rfl | rfl | rfl | rfl | rfl | rfl | rfl | rfl | rfl | rfl <;> rfl) (Nat.le_of_ble_eq_true rfl) (Nat.le_of_ble_eq_true rfl) (s.heap.size + 25) (by rw [ln_cr]) d_lw_law_8 (fun H hw => ?_)
  refine lv_dup hC.1 hC.2.1 d_lw_law_11 rfl ?_
  refine ca_C (w0 := w_cr G s.heap.size) (rest := [.ref (s.heap.size + 25)]) hC hw (c_md_init l G (s.heap.size + 25)) (mkB hC 0 tw_554 tw_5 tw_552 rfl rfl (by decide +kernel) (Nat.le_of_ble_eq_true rfl) (Nat.le_of_ble_eq_true rfl)) rfl tw_553 (sq_md G _) (by rw [ln_md]; decide) hl.1 rfl (Nat.le_of_ble_eq_true rfl) d_lw_law_12 ⟨Nat.le_of_ble_eq_true rfl, Nat.le_of_ble_eq_true rfl⟩ (fun H locs hw => ?_)
  refine lv_astore_n (lv' := [(2, Value.ref (s.heap.size + 25)), (1, Value.ref s.heap.size), (0, Value.ref b)]) hC.1 hC.2.1 d_lw_law_15 rfl hl (by decide) rfl (fun ls hl => ?_)
  refine lv_iconst (v := iI 1) hC.1 hC.2.1 d_lw_law_16 rfl ?_
  refine bn_long hC hw (z := 1) (N := 1) (by decide) (by decide) rfl (Nat.le_of_ble_eq_true rfl) (Nat.le_of_ble_eq_true rfl) (s.heap.size + 44) (by rw [List.length_append, ln_cr, ln_md]) d_lw_law_17 (fun H hw => ?_)
  refine lv_astore_n (lv' := [(3, Value.ref (s.heap.size + 44)), (2, Value.ref (s.heap.size + 25)), (1, Value.ref s.heap.size), (0, Value.ref b)]) hC.1 hC.2.1 d_lw_law_19 rfl hl (by decide) rfl (fun ls hl => ?_)
  refine lv_iconst (v := iI (5 * ((0 : Nat) : Int))) hC.1 hC.2.1 d_lw_law_20 rfl ?_
  refine lv_istore (lv' := [(4, Value.int (iI (5 * ((0 : Nat) : Int)))), (3, Value.ref (s.heap.size + 44)), (2, Value.ref (s.heap.size + 25)), (1, Value.ref s.heap.size), (0, Value.ref b)]) hC.1 hC.2.1 d_lw_law_21 hl (by decide) rfl (fun ls hl => ?_)
  obtain ⟨-, hP, -, -, hS, -⟩ := hw
  refine W.widen (k := 45 + 0) (n := 2376 + 6 * 0) (by decide) (by decide) ?_
  have hl5 := lv_sub hl [4, 3, 2, 1, 0] rfl
  refine lw_loop hK1 hr hlk L 0 s0 H locs ls (by omega) (by omega) s0_rel ?_ ?_
  · subst hGe
    exact ⟨hK, w_first D acl s.heap.size H (pP_l (pP_l hP)) (pP_r (pP_l hP)) (pP_r hP), w_apart D acl s.heap.size, hS⟩
  · subst hGe
    exact hl5

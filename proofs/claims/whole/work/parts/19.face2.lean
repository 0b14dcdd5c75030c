/-! the class's face: rules, routes, slots -/
def gV (k : Int) : Int := if k = 0 then 2 else if k = 1 then 2 else if k = 2 then 100 else 1
theorem gV_b (k : Int) : 0 ≤ gV k ∧ gV k ≤ 100 := by
  unfold gV
  repeat (first | omega | split)
def gvF (j : Nat) : Value := .int (iI (gV (j : Int)))
/-- the table of the greatest values -/
def gvt (G : Gt) (U : State) : Prop := ∃ t : Nat, va_Z "ChannelRules" "GREATEST_V" "[I" (.ref t) (gA G) U U.heap ∧ va_T .int t 5 gvF (gA G) U U.heap
theorem gvt_blind (As : List Value) (G : Gt) (S : St) : FrameBlind (va_Pc As (fun U => wu G S U ∧ gvt G U)) := by
  intro a U g mk h
  obtain ⟨h0, h1, t, h2, h3⟩ := h
  exact ⟨h0, (wu_blind As G S a U g mk ⟨h0, h1⟩).2, t, va_Z.moved (u := U) (U := U.calling g mk a) (Vm.Alike.refl U.vm) h2, va_T.moved (u := U) (U := U.calling g mk a) (Vm.Alike.refl U.vm) h3⟩
theorem mtz_of {l : Launch} {y : MethodName} {b : ByteArray} {n : Nat} {ret : Option FieldType} {rm : Room} {As : List Value} {G : Gt} {S : St} {Qc : Array Value → State → Outcome → State → Prop} {mc ms : Nat} {free : Addr → Prop} (hy : plainName y.cls = true) (hn : (lg_sl As).length ≤ n)
    (body : ∀ (p : Program) (e : Env) (s : State) (m : MethodId) (below : List Frame) (meth : Method) (c : Code) (ls : Array Slot), l.admits e → CallFix p m c b n s As.toArray tws y.cls → meth.sig.returnType = ret → meth.locks = false → c.exceptionTable.isEmpty = true → wh G S s s.heap [] → gvt G s → lv_has ls n (lv_args 0 As) → W p l e rm s m As.toArray below meth c s.heap [] 0 0 (MQ below Qc As.toArray s mc ms free) (F0 m 0 ls [])) :
    Met l y [.code y b n ret] rm (va_Pc As (fun U => wu G S U ∧ gvt G U)) Qc mc ms free := by
  refine Met.ofW (cc := b) (maxL := n) (ret := ret) hy rfl ?_
  intro p e s m args below meth c s₁ B hml hv
  obtain ⟨rfl, ⟨hK, hP, hD, ht⟩, hz⟩ := hv
  rw [lg_entry_eq]
  have hts : ∀ w ∈ tws, w.before As.toArray s = true := tw_same (s := s) (U := s) rfl ht
  have hl := lv_entry As (n := n) hn
  have hcode := atoms_spec (ws := [.code y b n ret]) B.pre _ List.mem_cons_self
  exact body p e s m below meth c _ (Stand.of_body B).admits ⟨B.exec, B.bytes, hml, findClass_of_methodNamed B.named, hts⟩ B.returns B.notSynchronized (BodyLoose.noHandlers B hcode) ⟨hK, hP, hD, va_S.rf⟩ hz hl
section ZT
variable {p : Program} {l : Launch} {e : Env} {R : Room} {s : State} {m : MethodId} {args : Array Value} {below : List Frame} {meth : Method} {c : Code} {H : Heap} {locs : List Loc} {cells slots : Nat} {Q : State → Prop}
variable {cc : ByteArray} {pc nL tz : Nat} {ls : Array Slot} {rest : List Value} {G : Gt} {S : St} {own : String}
theorem zt_ld (hC : CallFix p m c cc nL s args tws own) (hT : va_T .int tz 5 gvF (gA G) s s.heap) (hw : wh G S s H locs) {z : Int} (h0 : 0 ≤ z) (h1 : z < 5) (hdg : decode cc pc = .ok (.iaload, 1))
    (kk : W p l e R s m args below meth c H locs cells slots Q (F0 m (pc + 1) ls (.int (iI (gV z)) :: rest))) : W p l e R s m args below meth c H locs cells slots Q (F0 m pc ls (.int (iI z) :: .ref tz :: rest)) := by
  refine va_ti hC.1 hC.2.1 hT hw.2.2.2 (iI_in h0 h1 (by decide)) (v := .int (iI (gV z))) ?_ hdg kk
  rw [iI_clamp h0 (by omega)]
  unfold gvF
  rw [Int.toNat_of_nonneg h0]
end ZT
def rul (S : St) (q k v : Int) : Bool := wn q 0 (S 1 0 - 1) && (wn k 0 4 && wn v 0 (gV k))
/-- the plan's row keeps what it must -/
theorem prl_I (sh b : Int) (n : Nat) (T : St) (pt : Int) (h : Inv T) (hp : 0 ≤ pt ∧ pt ≤ 7) (hs : 1 ≤ T 15 sh.toNat) (hn : T 20 0 + (n : Int) ≤ 7) : Inv (prl sh b n T pt).1 := by
  induction n generalizing T pt with
  | zero => exact h
  | succ n ih =>
    unfold prl
    split
    · exact h
    · split
      · exact h
      · rename_i h1 h2
        have nb := nxP_b T sh pt
        have i1 := iv_1 h 0
        have tt := tTm_c h hs (nxP T sh pt)
        have g1 := nxP_o h sh pt h2 hp.2
        have g2 := oEnd_b h (nxP T sh pt) pt
        refine ih _ _ (aSt_I h (by omega) (by split <;> simp) tt (by omega)) (by rw [aSt_oEnd]; omega) (by rw [aSt_15]; exact hs) (by rw [aSt_20]; omega)
theorem prl_ne (sh b : Int) (n : Nat) (T : St) (pt : Int) {c : Nat} (h1 : c ≠ 20) (h2 : c ≠ 21) (h3 : c ≠ 22) (h4 : c ≠ 23) (h5 : c ≠ 24) : (prl sh b n T pt).1 c = T c := by
  induction n generalizing T pt with
  | zero => rfl
  | succ n ih =>
    unfold prl
    split
    · rfl
    · split
      · rfl
      · rw [ih, aSt_ne _ _ _ _ h1 h2 h3 h4 h5]
theorem prl_2 (sh b : Int) (n : Nat) (T : St) (pt : Int) : 0 ≤ (prl sh b n T pt).2 ∧ (prl sh b n T pt).2 ≤ 1 := by
  induction n generalizing T pt with
  | zero => unfold prl; simp only []; split <;> omega
  | succ n ih =>
    unfold prl
    split
    · simp
    · split
      · simp
      · exact ih _ _
theorem pRt_I {S : St} (b : Int) (h : Inv S) {sh a : Int} (hsh : 0 ≤ sh ∧ sh < 12) (ha : 0 ≤ a ∧ a ≤ 7) (hs : 1 ≤ S 15 sh.toNat) : Inv (pRt S sh a b).1 := by
  unfold pRt
  split
  · exact sPk_I h (by omega) 12
  · exact prl_I sh b 7 _ a (mtl_I (sPk_I h (by omega) 12)) ha (by rw [mtl_15]; exact hs) (by rw [mtl_20]; decide)
theorem pRt_b (S : St) (sh a b : Int) : 0 ≤ (pRt S sh a b).2 ∧ (pRt S sh a b).2 ≤ 1 := by
  unfold pRt
  split
  · simp
  · exact prl_2 _ _ _ _ _
theorem pRt_ne (S : St) (sh a b : Int) {c : Nat} (h0 : c ≠ 4) (h1 : c ≠ 18) (h2 : c ≠ 19) (h3 : c ≠ 20) (h4 : c ≠ 21) (h5 : c ≠ 22) (h6 : c ≠ 23) (h7 : c ≠ 24) : (pRt S sh a b).1 c = S c := by
  unfold pRt
  split
  · exact sPk_ne _ _ _ h1 h2 h3 h7
  · rw [prl_ne _ _ _ _ _ h3 h4 h5 h6 h7, mtl_ne _ _ _ h0, sPk_ne _ _ _ h1 h2 h3 h7]
theorem pRt_3 (S : St) (sh a b : Int) : (pRt S sh a b).1 3 0 = S 3 0 := by rw [pRt_ne _ _ _ _ (by decide) (by decide) (by decide) (by decide) (by decide) (by decide) (by decide) (by decide)]
def kRo (S : St) (sh a b w : Int) : Int := if voy S sh a b = true ∧ wn w 0 2 = true then 0 else 1
def rou (S : St) (sh a b w : Int) : Int := if (pRt S sh a b).2 = 0 then -1 else if w = 0 then (pRt S sh a b).1 4 a.toNat else if w = 1 then pOf (pRt S sh a b).1 0 0 else (pRt S sh a b).1 20 0
def kAs (S : St) (sh a b t : Int) : Int := if voy S sh a b = true ∧ wn t (S 0 6) 100000 = true then (if S 3 0 < 30 then 0 else 2) else 1
def askT (S : St) (sh a b t : Int) : St := s_up (pRt S sh a b).1 19 0 t
def askB (S : St) (sh a b t : Int) : Int := fBr (s_up (pRt S sh a b).1 19 0 t) 0 0 (s_up (pRt S sh a b).1 19 0 t 20 (Int.toNat 0)).toNat
def askR (S : St) (sh a b t : Int) : Int := if (pRt S sh a b).2 = 0 then 0 else if askB S sh a b t = 0 then gva (s_up (pRt S sh a b).1 19 0 t) 3 0 else -1 - askB S sh a b t
def askS (S : St) (sh a b t : Int) : St := if (pRt S sh a b).2 = 0 then (pRt S sh a b).1 else if askB S sh a b t = 0 then gvg (s_up (pRt S sh a b).1 19 0 t) 12 else s_up (pRt S sh a b).1 19 0 t
theorem up19_3 (T : St) (i : Nat) (t : Int) : s_up T 19 i t 3 0 = T 3 0 := by rw [s_up_cell (by decide)]
def kCh (S : St) (k t : Int) : Int := if wn k 1 (S 3 0) = true ∧ wn t (S 0 6) 100000 = true then 0 else 1
def chR (S : St) (k t : Int) : Int := if stB S k = false then -1 else if fBr (s_up S 19 k.toNat t) k 0 (s_up S 19 k.toNat t 20 k.toNat).toNat = 0 then 1 else 0
def chS (S : St) (k t : Int) : St := if stB S k = false then S else if fBr (s_up S 19 k.toNat t) k 0 (s_up S 19 k.toNat t 20 k.toNat).toNat = 0 then s_up S 19 k.toNat t else s_up (s_up S 19 k.toNat t) 19 k.toNat (S 19 k.toNat)
def kCo (w : Int) : Int := if wn w 0 3 = true then 0 else 1
def coR (S : St) (i w : Int) : Int := if i < 0 then -1 else if (skO S i (S 3 0).toNat).2 ≤ i then -1 else (skO S i (S 3 0).toNat).1 5 w.toNat
def coS (S : St) (i : Int) : St := if i < 0 then S else (skO S i (S 3 0).toNat).1
def kAt (S : St) (k i w : Int) : Int := if wn k 1 (S 3 0) = true ∧ 0 ≤ i ∧ i < S 20 k.toNat ∧ wn w 0 3 = true then 0 else 3
def atR (S : St) (k i w : Int) : Int := if w = 0 then pOf S k i else if w = 1 then enA S k i else if w = 2 then lvA S k i else if fOf S k i = 0 then 0 else 1
def kEa (S : St) (sh a b t : Int) : Int := if voy S sh a b = true ∧ wn t (S 0 6) 100000 = true then 0 else 1
def eaL (last : Int) : Nat → St → Int → St × Int
  | 0, T, _ => (T, -1)
  | n + 1, T, v => if v ≤ last then (if pWt (s_up T 19 0 v) (s_up T 19 0 v 20 0).toNat ≤ 0 then (s_up T 19 0 v, v) else eaL last n (s_up T 19 0 v) (v + pWt (s_up T 19 0 v) (s_up T 19 0 v 20 0).toNat)) else (T, -1)
theorem eaL_s (last : Int) (n : Nat) (T : St) (v : Int) (h : 0 < n) : eaL last n T v = if v ≤ last then (if pWt (s_up T 19 0 v) (s_up T 19 0 v 20 0).toNat ≤ 0 then (s_up T 19 0 v, v) else eaL last (n - 1) (s_up T 19 0 v) (v + pWt (s_up T 19 0 v) (s_up T 19 0 v 20 0).toNat)) else (T, -1) := by
  have e : n = (n - 1) + 1 := by omega
  rw [e]
  rfl
theorem eaL_x (last : Int) (n : Nat) (T : St) (v : Int) (h : ¬ v ≤ last) : eaL last n T v = (T, -1) := by
  cases n with
  | zero => rfl
  | succ n => rw [eaL_s _ _ _ _ (by omega), if_neg h]
def eaP (S : St) (sh a b t : Int) : St × Int := if (pRt S sh a b).2 = 0 then ((pRt S sh a b).1, -1) else eaL (min (t + 2880) 100000) 2882 (pRt S sh a b).1 t
set_option maxHeartbeats 4000000 in
set_option maxRecDepth 100000 in
theorem c_cr_rule (l : Launch) (G : Gt) (S : St) (q : Int) (k : Int) (v : Int) (hI : Inv S) (hq : i32 q) (hk : i32 k) (hv : i32 v) : Met l y_cr_rule [.code y_cr_rule b_cr_rule 4 (some .boolean)] { frames := 2, cells := 0, slots := 0, locals := 43 } (va_Pc [.ref (G.2.1 0), .int (iI (q)), .int (iI (k)), .int (iI (v))] (fun U => wu G S U ∧ gvt G U)) (qW G (if rul S q k v = true then s_up S 10 (q * 5 + k).toNat v else S) (bI (rul S q k v))) 0 0 (gA G) := by
  refine mtz_of (by decide +kernel) (Nat.le_of_ble_eq_true rfl) ?_
  intro p e s m below meth c ls hadm hC hr hlk hex hw hzz hl
  obtain ⟨tz, hZ⟩ := hzz
  have hC : CallFix p m c b_cr_rule 4 s _ tws "ChannelRules" := hC
  have hl : lv_has ls 4 [(0, .ref (G.2.1 0)), (1, .int (iI (q))), (2, .int (iI (k))), (3, .int (iI (v)))] := hl
  have i1 := iv_1 hI 0
  refine lv_aload_n hC.1 hC.2.1 d_cr_rule_0 rfl (lv_at hl 0 rfl) ?_
  refine gf_cr_12 hC hw d_cr_rule_1 ?_
  refine lv_iload_n hC.1 hC.2.1 d_cr_rule_4 rfl (lv_at hl 1 rfl) ?_
  refine go_R (ca_V (As := [.int (iI (q))]) (rest := []) hC hw (c_pc_has l G S q hI (by omega)) (cv_cr_74 hC rfl rfl (Nat.le_of_ble_eq_true rfl) (Nat.le_of_ble_eq_true rfl)) (by decide) rfl rfl rfl hl.1 rfl (Nat.le_of_ble_eq_true rfl) d_cr_rule_5 ⟨Nat.le_of_ble_eq_true rfl, Nat.le_of_ble_eq_true rfl⟩) ?_
  refine ir_beq (tgt := 33) hC d_cr_rule_8 (by decide) (fun c_1 => ?_) (fun c_1 => ?_)
  · skip
    refine lv_iconst (v := iI 0) hC.1 hC.2.1 d_cr_rule_33 rfl ?_
    exact rt_WZ hC hr hlk hw (by decide) (by simp [bI, rul, c_1]) (by simp [rul, c_1]) d_cr_rule_34
  · skip
    have w_2 := wn_t c_1
    refine lv_iload_n hC.1 hC.2.1 d_cr_rule_11 rfl (lv_at hl 2 rfl) ?_
    refine lv_iconst (v := iI 0) hC.1 hC.2.1 d_cr_rule_12 rfl ?_
    refine lv_iconst (v := iI 4) hC.1 hC.2.1 d_cr_rule_13 rfl ?_
    refine go_R (ca_S (As := [.int (iI (k)), .int (iI (0)), .int (iI (4))]) (rest := []) hC hw (c_cr_isWithin l G S k 0 4 (by omega) (by omega) (by omega)) (cv_cr_56 hC rfl rfl (Nat.le_of_ble_eq_true rfl) (Nat.le_of_ble_eq_true rfl)) rfl hl.1 rfl (Nat.le_of_ble_eq_true rfl) d_cr_rule_14 ⟨Nat.le_of_ble_eq_true rfl, Nat.le_of_ble_eq_true rfl⟩) ?_
    refine ir_beq (tgt := 33) hC d_cr_rule_17 (by decide) (fun c_3 => ?_) (fun c_3 => ?_)
    · skip
      refine lv_iconst (v := iI 0) hC.1 hC.2.1 d_cr_rule_33 rfl ?_
      exact rt_WZ hC hr hlk hw (by decide) (by simp [bI, rul, c_1, c_3]) (by simp [rul, c_1, c_3]) d_cr_rule_34
    · skip
      have w_4 := wn_t c_3
      refine lv_iload_n hC.1 hC.2.1 d_cr_rule_20 rfl (lv_at hl 3 rfl) ?_
      refine lv_iconst (v := iI 0) hC.1 hC.2.1 d_cr_rule_21 rfl ?_
      refine va_gets hC.1 hC.2.1 hZ.1 hw.2.2.2 hC.2.2.2.1 (hC.2.2.2.2 _ tw_159) (fun _ h => h) d_cr_rule_22 ?_
      refine lv_iload_n hC.1 hC.2.1 d_cr_rule_25 rfl (lv_at hl 2 rfl) ?_
      refine zt_ld hC hZ.2 hw (by omega) (by omega) d_cr_rule_26 ?_
      have b_5 := gV_b k
      refine go_R (ca_S (As := [.int (iI (v)), .int (iI (0)), .int (iI (gV k))]) (rest := []) hC hw (c_cr_isWithin l G S v 0 (gV k) (by omega) (by omega) (by omega)) (cv_cr_56 hC rfl rfl (Nat.le_of_ble_eq_true rfl) (Nat.le_of_ble_eq_true rfl)) rfl hl.1 rfl (Nat.le_of_ble_eq_true rfl) d_cr_rule_27 ⟨Nat.le_of_ble_eq_true rfl, Nat.le_of_ble_eq_true rfl⟩) ?_
      refine ir_bne (tgt := 35) hC d_cr_rule_30 (by decide) (fun c_6 => ?_) (fun c_6 => ?_)
      · skip
        have w_7 := wn_t c_6
        refine lv_aload_n hC.1 hC.2.1 d_cr_rule_35 rfl (lv_at hl 0 rfl) ?_
        refine gf_cr_12 hC hw d_cr_rule_36 ?_
        refine lv_iload_n hC.1 hC.2.1 d_cr_rule_39 rfl (lv_at hl 1 rfl) ?_
        refine lv_iload_n hC.1 hC.2.1 d_cr_rule_40 rfl (lv_at hl 2 rfl) ?_
        refine lv_iload_n hC.1 hC.2.1 d_cr_rule_41 rfl (lv_at hl 3 rfl) ?_
        refine go_V (ca_V (As := [.int (iI (q)), .int (iI (k)), .int (iI (v))]) (rest := []) hC hw (c_pc_setRule l G S q k v (by omega) (by omega)) (cv_cr_80 hC rfl rfl (Nat.le_of_ble_eq_true rfl) (Nat.le_of_ble_eq_true rfl)) (by decide) rfl rfl rfl hl.1 rfl (Nat.le_of_ble_eq_true rfl) d_cr_rule_42 ⟨Nat.le_of_ble_eq_true rfl, Nat.le_of_ble_eq_true rfl⟩) hw (fun H locs hw => ?_)
        refine lv_iconst (v := iI 1) hC.1 hC.2.1 d_cr_rule_45 rfl ?_
        exact rt_WZ hC hr hlk hw (by decide) (by simp [bI, rul, c_1, c_3, c_6]) (by simp [rul, c_1, c_3, c_6]) d_cr_rule_46
      · skip
        refine lv_iconst (v := iI 0) hC.1 hC.2.1 d_cr_rule_33 rfl ?_
        exact rt_WZ hC hr hlk hw (by decide) (by simp [bI, rul, c_1, c_3, c_6]) (by simp [rul, c_1, c_3, c_6]) d_cr_rule_34
set_option maxHeartbeats 4000000 in
set_option maxRecDepth 100000 in
theorem c_cr_route (l : Launch) (hl0 : ∀ e : Env, l.admits e → e.platform.stackTraces = false) (G : Gt) (S : St) (sh : Int) (a : Int) (b : Int) (w : Int) (hI : Inv S) (hsp : ∀ j : Nat, (j : Int) < S 2 0 → 1 ≤ S 15 j) (hsh : i32 sh) (ha : i32 a) (hb : i32 b) (hw : i32 w) : MetX l y_cr_route [.code y_cr_route b_cr_route 5 (some .int)] { frames := 7, cells := 1, slots := 6, locals := 120 } (va_Pc [.ref (G.2.1 0), .int (iI (sh)), .int (iI (a)), .int (iI (b)), .int (iI (w))] (fun U => wu G S U ∧ exw txs U)) (qX G (if kRo S sh a b w = 0 then (pRt S sh a b).1 else S) (kRo S sh a b w) (rou S sh a b w)) 1 6 (gA G) := by
  refine mtx_of (by decide +kernel) (Nat.le_of_ble_eq_true rfl) ?_
  intro p e s m below meth c ls hadm hC hr hlk hex hw hxw hl
  have hC : CallFix p m c b_cr_route 5 s _ tws "ChannelRules" := hC
  have hl : lv_has ls 5 [(0, .ref (G.2.1 0)), (1, .int (iI (sh))), (2, .int (iI (a))), (3, .int (iI (b))), (4, .int (iI (w)))] := hl
  have i2 := iv_2 hI 0
  refine lv_aload_n hC.1 hC.2.1 d_cr_route_0 rfl (lv_at hl 0 rfl) ?_
  refine lv_iload_n hC.1 hC.2.1 d_cr_route_1 rfl (lv_at hl 1 rfl) ?_
  refine lv_iload_n hC.1 hC.2.1 d_cr_route_2 rfl (lv_at hl 2 rfl) ?_
  refine lv_iload_n hC.1 hC.2.1 d_cr_route_3 rfl (lv_at hl 3 rfl) ?_
  refine go_R (ca_V (As := [.int (iI (sh)), .int (iI (a)), .int (iI (b))]) (rest := []) hC hw (c_cr_isVoyage l G S sh a b hI (by omega) (by omega) (by omega)) (cv_cr_92 hC rfl rfl (Nat.le_of_ble_eq_true rfl) (Nat.le_of_ble_eq_true rfl)) (by decide) rfl rfl rfl hl.1 rfl (Nat.le_of_ble_eq_true rfl) d_cr_route_4 ⟨Nat.le_of_ble_eq_true rfl, Nat.le_of_ble_eq_true rfl⟩) ?_
  refine ir_beq (tgt := 20) hC d_cr_route_7 (by decide) (fun c_1 => ?_) (fun c_1 => ?_)
  · skip
    have hk_2 : kRo S sh a b w = 1 := (by first | (simp [kRo, c_1]; done) | (simp [kRo, c_1]; omega) | (simp [kRo, c_1]; done) | (simp [kRo, c_1]; omega) | omega)
    exact th_S (X := "java/lang/IllegalArgumentException") (txt := "no such ship, points or what") hC (hl0 e hadm) hw hxw hlk hex hl.1 tw_256 tw_257 tw_9 (by decide) own_53 (by decide +kernel) d_cr_route_20 d_cr_route_23 d_cr_route_24 d_cr_route_26 d_cr_route_29 (Nat.le_of_ble_eq_true rfl) (Nat.le_of_ble_eq_true rfl) (Nat.le_of_ble_eq_true rfl) (Nat.le_of_ble_eq_true rfl) (by rw [hk_2]; decide) (by rw [hk_2]; decide +kernel) (by simp [hk_2])
  · skip
    have w_3 := voy_t c_1
    refine lv_iload hC.1 hC.2.1 d_cr_route_10 (lv_at hl 4 rfl) ?_
    refine lv_iconst (v := iI 0) hC.1 hC.2.1 d_cr_route_12 rfl ?_
    refine lv_iconst (v := iI 2) hC.1 hC.2.1 d_cr_route_13 rfl ?_
    refine go_R (ca_S (As := [.int (iI (w)), .int (iI (0)), .int (iI (2))]) (rest := []) hC hw (c_cr_isWithin l G S w 0 2 (by omega) (by omega) (by omega)) (cv_cr_56 hC rfl rfl (Nat.le_of_ble_eq_true rfl) (Nat.le_of_ble_eq_true rfl)) rfl hl.1 rfl (Nat.le_of_ble_eq_true rfl) d_cr_route_14 ⟨Nat.le_of_ble_eq_true rfl, Nat.le_of_ble_eq_true rfl⟩) ?_
    refine ir_bne (tgt := 30) hC d_cr_route_17 (by decide) (fun c_4 => ?_) (fun c_4 => ?_)
    · skip
      have w_5 := wn_t c_4
      refine lv_aload_n hC.1 hC.2.1 d_cr_route_30 rfl (lv_at hl 0 rfl) ?_
      refine lv_iload_n hC.1 hC.2.1 d_cr_route_31 rfl (lv_at hl 1 rfl) ?_
      refine lv_iload_n hC.1 hC.2.1 d_cr_route_32 rfl (lv_at hl 2 rfl) ?_
      refine lv_iload_n hC.1 hC.2.1 d_cr_route_33 rfl (lv_at hl 3 rfl) ?_
      refine go_W (ca_V (As := [.int (iI (sh)), .int (iI (a)), .int (iI (b))]) (rest := []) hC hw (c_cr_planRoute l G S sh a b hI (by omega) (by omega) (by omega) (hsp sh.toNat (by omega))) (cv_cr_97 hC rfl rfl (Nat.le_of_ble_eq_true rfl) (Nat.le_of_ble_eq_true rfl)) (by decide) rfl rfl rfl hl.1 rfl (Nat.le_of_ble_eq_true rfl) d_cr_route_34 ⟨Nat.le_of_ble_eq_true rfl, Nat.le_of_ble_eq_true rfl⟩) hw (fun H locs hw => ?_)
      have r_6 := pRt_b S sh a b
      have r_7 := pRt_3 S sh a b
      refine ir_if_ne (tgt := 42) hC.1 hC.2.1 d_cr_route_37 (by decide) ⟨by omega, by omega⟩ (fun c_8 => ?_) (fun c_8 => ?_)
      · skip
        refine lv_iload hC.1 hC.2.1 d_cr_route_42 (lv_at hl 4 rfl) ?_
        by_cases e_9 : w = 0
        · refine ir_look (off := 28) (tgt := 72) hC d_cr_route_44 (by decide) ⟨by omega, by omega⟩ (by rw [e_9]; decide) (by decide) ?_
          refine lv_aload_n hC.1 hC.2.1 d_cr_route_72 rfl (lv_at hl 0 rfl) ?_
          refine gf_cr_30 hC hw d_cr_route_73 ?_
          refine lv_iload_n hC.1 hC.2.1 d_cr_route_76 rfl (lv_at hl 2 rfl) ?_
          refine ld_4 hC hw (by omega) (by omega) d_cr_route_77 ?_
          have b_10 := iv_4 (pRt_I b hI (show 0 ≤ sh ∧ sh < 12 by omega) (show 0 ≤ a ∧ a ≤ 7 by omega) (hsp sh.toNat (by omega))) a.toNat
          have hk_11 : kRo S sh a b w = 0 := (by first | (simp [kRo, c_1, c_4, c_8, e_9]; done) | (simp [kRo, c_1, c_4, c_8, e_9]; omega) | (simp [kRo, c_1, c_4, c_8]; done) | (simp [kRo, c_1, c_4, c_8]; omega) | omega)
          exact rx_W hC hr hlk hw hk_11 (by first | (simp [rou, c_1, c_4, c_8, e_9]; done) | (unfold rou; rw [if_neg (by assumption)]; simp [c_1, c_4, c_8, e_9])) (by simp [hk_11]) d_cr_route_78 (Nat.zero_le _) (Nat.zero_le _)
        · skip
          by_cases e_12 : w = 1
          · refine ir_look (off := 35) (tgt := 79) hC d_cr_route_44 (by decide) ⟨by omega, by omega⟩ (by rw [e_12]; decide) (by decide) ?_
            refine lv_aload_n hC.1 hC.2.1 d_cr_route_79 rfl (lv_at hl 0 rfl) ?_
            refine gf_cr_26 hC hw d_cr_route_80 ?_
            refine lv_iconst (v := iI 0) hC.1 hC.2.1 d_cr_route_83 rfl ?_
            refine lv_iconst (v := iI 0) hC.1 hC.2.1 d_cr_route_84 rfl ?_
            refine go_R (ca_V (As := [.int (iI (0)), .int (iI (0))]) (rest := []) hC hw (c_ps_pieceOf l G ((pRt S sh a b).1) 0 0 (pRt_I b hI (show 0 ≤ sh ∧ sh < 12 by omega) (show 0 ≤ a ∧ a ≤ 7 by omega) (hsp sh.toNat (by omega))) (by omega) (by omega)) (cv_cr_100 hC rfl rfl (Nat.le_of_ble_eq_true rfl) (Nat.le_of_ble_eq_true rfl)) (by decide) rfl rfl rfl hl.1 rfl (Nat.le_of_ble_eq_true rfl) d_cr_route_85 ⟨Nat.le_of_ble_eq_true rfl, Nat.le_of_ble_eq_true rfl⟩) ?_
            have r_13 := pOf_b (pRt_I b hI (show 0 ≤ sh ∧ sh < 12 by omega) (show 0 ≤ a ∧ a ≤ 7 by omega) (hsp sh.toNat (by omega))) 0 0
            have hk_14 : kRo S sh a b w = 0 := (by first | (simp [kRo, c_1, c_4, c_8, e_9, e_12]; done) | (simp [kRo, c_1, c_4, c_8, e_9, e_12]; omega) | (simp [kRo, c_1, c_4, c_8]; done) | (simp [kRo, c_1, c_4, c_8]; omega) | omega)
            exact rx_W hC hr hlk hw hk_14 (by first | (simp [rou, c_1, c_4, c_8, e_9, e_12]; done) | (unfold rou; rw [if_neg (by assumption)]; simp [c_1, c_4, c_8, e_9, e_12])) (by simp [hk_14]) d_cr_route_88 (Nat.zero_le _) (Nat.zero_le _)
          · skip
            refine ir_look (off := 45) (tgt := 89) hC d_cr_route_44 (by decide) ⟨by omega, by omega⟩ (by simp [Op.lookupswitch.offset, e_9, e_12]; try omega) (by decide) ?_
            refine lv_aload_n hC.1 hC.2.1 d_cr_route_89 rfl (lv_at hl 0 rfl) ?_
            refine gf_cr_26 hC hw d_cr_route_90 ?_
            refine gf_cr_104 hC hw d_cr_route_93 ?_
            refine lv_iconst (v := iI 0) hC.1 hC.2.1 d_cr_route_96 rfl ?_
            refine lc_20 0 hC hw (by decide) d_cr_route_97 ?_
            have b_15 := iv_20 (pRt_I b hI (show 0 ≤ sh ∧ sh < 12 by omega) (show 0 ≤ a ∧ a ≤ 7 by omega) (hsp sh.toNat (by omega))) 0
            have hk_16 : kRo S sh a b w = 0 := (by first | (simp [kRo, c_1, c_4, c_8, e_9, e_12]; done) | (simp [kRo, c_1, c_4, c_8, e_9, e_12]; omega) | (simp [kRo, c_1, c_4, c_8]; done) | (simp [kRo, c_1, c_4, c_8]; omega) | omega)
            exact rx_W hC hr hlk hw hk_16 (by first | (simp [rou, c_1, c_4, c_8, e_9, e_12]; done) | (unfold rou; rw [if_neg (by assumption)]; simp [c_1, c_4, c_8, e_9, e_12])) (by simp [hk_16]) d_cr_route_98 (Nat.zero_le _) (Nat.zero_le _)
      · skip
        refine lv_iconst (v := iI (-1)) hC.1 hC.2.1 d_cr_route_40 rfl ?_
        have hk_17 : kRo S sh a b w = 0 := (by first | (simp [kRo, c_1, c_4, c_8]; done) | (simp [kRo, c_1, c_4, c_8]; omega) | (simp [kRo, c_1, c_4, c_8]; done) | (simp [kRo, c_1, c_4, c_8]; omega) | omega)
        exact rx_W hC hr hlk hw hk_17 (by first | (simp [rou, c_1, c_4, c_8]; done) | (unfold rou; rw [if_neg (by assumption)]; simp [c_1, c_4, c_8])) (by simp [hk_17]) d_cr_route_41 (Nat.zero_le _) (Nat.zero_le _)
    · skip
      have hk_18 : kRo S sh a b w = 1 := (by first | (simp [kRo, c_1, c_4]; done) | (simp [kRo, c_1, c_4]; omega) | (simp [kRo, c_1, c_4]; done) | (simp [kRo, c_1, c_4]; omega) | omega)
      exact th_S (X := "java/lang/IllegalArgumentException") (txt := "no such ship, points or what") hC (hl0 e hadm) hw hxw hlk hex hl.1 tw_256 tw_257 tw_9 (by decide) own_53 (by decide +kernel) d_cr_route_20 d_cr_route_23 d_cr_route_24 d_cr_route_26 d_cr_route_29 (Nat.le_of_ble_eq_true rfl) (Nat.le_of_ble_eq_true rfl) (Nat.le_of_ble_eq_true rfl) (Nat.le_of_ble_eq_true rfl) (by rw [hk_18]; decide) (by rw [hk_18]; decide +kernel) (by simp [hk_18])
set_option maxHeartbeats 4000000 in
set_option maxRecDepth 100000 in
theorem c_cr_ask (l : Launch) (hl0 : ∀ e : Env, l.admits e → e.platform.stackTraces = false) (G : Gt) (S : St) (sh : Int) (a : Int) (b : Int) (t : Int) (hI : Inv S) (hsp : ∀ j : Nat, (j : Int) < S 2 0 → 1 ≤ S 15 j) (hsh : i32 sh) (ha : i32 a) (hb : i32 b) (ht : i32 t) : MetX l y_cr_ask [.code y_cr_ask b_cr_ask 6 (some .int)] { frames := 7, cells := 1, slots := 6, locals := 127 } (va_Pc [.ref (G.2.1 0), .int (iI (sh)), .int (iI (a)), .int (iI (b)), .int (iI (t))] (fun U => wu G S U ∧ exw txs U)) (qX G (if kAs S sh a b t = 0 then askS S sh a b t else S) (kAs S sh a b t) (askR S sh a b t)) 1 6 (gA G) := by
  refine mtx_of (by decide +kernel) (Nat.le_of_ble_eq_true rfl) ?_
  intro p e s m below meth c ls hadm hC hr hlk hex hw hxw hl
  have hC : CallFix p m c b_cr_ask 6 s _ tws "ChannelRules" := hC
  have hl : lv_has ls 6 [(0, .ref (G.2.1 0)), (1, .int (iI (sh))), (2, .int (iI (a))), (3, .int (iI (b))), (4, .int (iI (t)))] := hl
  have i0 := iv_0 hI 6
  have i2 := iv_2 hI 0
  have i3 := iv_3 hI 0
  refine lv_aload_n hC.1 hC.2.1 d_cr_ask_0 rfl (lv_at hl 0 rfl) ?_
  refine lv_iload_n hC.1 hC.2.1 d_cr_ask_1 rfl (lv_at hl 1 rfl) ?_
  refine lv_iload_n hC.1 hC.2.1 d_cr_ask_2 rfl (lv_at hl 2 rfl) ?_
  refine lv_iload_n hC.1 hC.2.1 d_cr_ask_3 rfl (lv_at hl 3 rfl) ?_
  refine go_R (ca_V (As := [.int (iI (sh)), .int (iI (a)), .int (iI (b))]) (rest := []) hC hw (c_cr_isVoyage l G S sh a b hI (by omega) (by omega) (by omega)) (cv_cr_92 hC rfl rfl (Nat.le_of_ble_eq_true rfl) (Nat.le_of_ble_eq_true rfl)) (by decide) rfl rfl rfl hl.1 rfl (Nat.le_of_ble_eq_true rfl) d_cr_ask_4 ⟨Nat.le_of_ble_eq_true rfl, Nat.le_of_ble_eq_true rfl⟩) ?_
  refine ir_beq (tgt := 24) hC d_cr_ask_7 (by decide) (fun c_1 => ?_) (fun c_1 => ?_)
  · skip
    have hk_2 : kAs S sh a b t = 1 := (by first | (simp [kAs, c_1]; done) | (simp [kAs, c_1]; omega) | (simp [kAs, c_1]; done) | (simp [kAs, c_1]; omega) | omega)
    exact th_S (X := "java/lang/IllegalArgumentException") (txt := "no such ship or points, or not such a time") hC (hl0 e hadm) hw hxw hlk hex hl.1 tw_256 tw_257 tw_9 (by decide) own_53 (by decide +kernel) d_cr_ask_24 d_cr_ask_27 d_cr_ask_28 d_cr_ask_30 d_cr_ask_33 (Nat.le_of_ble_eq_true rfl) (Nat.le_of_ble_eq_true rfl) (Nat.le_of_ble_eq_true rfl) (Nat.le_of_ble_eq_true rfl) (by rw [hk_2]; decide) (by rw [hk_2]; decide +kernel) (by simp [hk_2])
  · skip
    have w_3 := voy_t c_1
    refine lv_iload hC.1 hC.2.1 d_cr_ask_10 (lv_at hl 4 rfl) ?_
    refine lv_aload_n hC.1 hC.2.1 d_cr_ask_12 rfl (lv_at hl 0 rfl) ?_
    refine gf_cr_41 hC hw d_cr_ask_13 ?_
    have b_4 := iv_0 hI 6
    refine ir_ldc hC 100000 tw_186 (by decide +kernel) d_cr_ask_16 ?_
    refine go_R (ca_S (As := [.int (iI (t)), .int (iI (S 0 6)), .int (iI (100000))]) (rest := []) hC hw (c_cr_isWithin l G S t (S 0 6) 100000 (by omega) (by omega) (by omega)) (cv_cr_56 hC rfl rfl (Nat.le_of_ble_eq_true rfl) (Nat.le_of_ble_eq_true rfl)) rfl hl.1 rfl (Nat.le_of_ble_eq_true rfl) d_cr_ask_18 ⟨Nat.le_of_ble_eq_true rfl, Nat.le_of_ble_eq_true rfl⟩) ?_
    refine ir_bne (tgt := 34) hC d_cr_ask_21 (by decide) (fun c_5 => ?_) (fun c_5 => ?_)
    · skip
      have w_6 := wn_t c_5
      refine lv_aload_n hC.1 hC.2.1 d_cr_ask_34 rfl (lv_at hl 0 rfl) ?_
      refine gf_cr_26 hC hw d_cr_ask_35 ?_
      refine gf_cr_110 hC hw d_cr_ask_38 ?_
      have b_7 := iv_3 hI 0
      refine lv_bipush (v := iI 30) hC.1 hC.2.1 d_cr_ask_41 (by decide +kernel) ?_
      refine ir_lt (tgt := 56) hC.1 hC.2.1 d_cr_ask_43 (by decide) ⟨by omega, by omega⟩ (by decide) (fun c_8 => ?_) (fun c_8 => ?_)
      · skip
        refine lv_aload_n hC.1 hC.2.1 d_cr_ask_56 rfl (lv_at hl 0 rfl) ?_
        refine lv_iload_n hC.1 hC.2.1 d_cr_ask_57 rfl (lv_at hl 1 rfl) ?_
        refine lv_iload_n hC.1 hC.2.1 d_cr_ask_58 rfl (lv_at hl 2 rfl) ?_
        refine lv_iload_n hC.1 hC.2.1 d_cr_ask_59 rfl (lv_at hl 3 rfl) ?_
        refine go_W (ca_V (As := [.int (iI (sh)), .int (iI (a)), .int (iI (b))]) (rest := []) hC hw (c_cr_planRoute l G S sh a b hI (by omega) (by omega) (by omega) (hsp sh.toNat (by omega))) (cv_cr_97 hC rfl rfl (Nat.le_of_ble_eq_true rfl) (Nat.le_of_ble_eq_true rfl)) (by decide) rfl rfl rfl hl.1 rfl (Nat.le_of_ble_eq_true rfl) d_cr_ask_60 ⟨Nat.le_of_ble_eq_true rfl, Nat.le_of_ble_eq_true rfl⟩) hw (fun H locs hw => ?_)
        have r_9 := pRt_b S sh a b
        have r_10 := pRt_3 S sh a b
        refine ir_if_ne (tgt := 68) hC.1 hC.2.1 d_cr_ask_63 (by decide) ⟨by omega, by omega⟩ (fun c_11 => ?_) (fun c_11 => ?_)
        · skip
          refine lv_aload_n hC.1 hC.2.1 d_cr_ask_68 rfl (lv_at hl 0 rfl) ?_
          refine gf_cr_26 hC hw d_cr_ask_69 ?_
          refine gf_cr_115 hC hw d_cr_ask_72 ?_
          refine lv_iconst (v := iI 0) hC.1 hC.2.1 d_cr_ask_75 rfl ?_
          refine lv_iload hC.1 hC.2.1 d_cr_ask_76 (lv_at hl 4 rfl) ?_
          refine sc_19 0 (x := t) hC hw (by decide) d_cr_ask_78 (fun H locs hw => ?_)
          have hI_12 := Inv.up (q := 19) (i := 0) (x := t) (pRt_I b hI (show 0 ≤ sh ∧ sh < 12 by omega) (show 0 ≤ a ∧ a ≤ 7 by omega) (hsp sh.toNat (by omega))) (by omega) (show _ ≤ 100000 from by omega)
          refine lv_aload_n hC.1 hC.2.1 d_cr_ask_79 rfl (lv_at hl 0 rfl) ?_
          refine lv_iconst (v := iI 0) hC.1 hC.2.1 d_cr_ask_80 rfl ?_
          refine go_R (ca_V (As := [.int (iI (0))]) (rest := []) hC hw (c_cr_firstBar l G (s_up ((pRt S sh a b).1) 19 0 t) 0 hI_12 (by omega)) (cv_cr_118 hC rfl rfl (Nat.le_of_ble_eq_true rfl) (Nat.le_of_ble_eq_true rfl)) (by decide) rfl rfl rfl hl.1 rfl (Nat.le_of_ble_eq_true rfl) d_cr_ask_81 ⟨Nat.le_of_ble_eq_true rfl, Nat.le_of_ble_eq_true rfl⟩) ?_
          have r_13 := fBr_b (s_up ((pRt S sh a b).1) 19 0 t) 0 0 ((s_up ((pRt S sh a b).1) 19 0 t) 20 (0 : Int).toNat).toNat
          refine lv_istore (lv' := [(5, .int (iI (fBr (s_up ((pRt S sh a b).1) 19 0 t) 0 0 ((s_up ((pRt S sh a b).1) 19 0 t) 20 (0 : Int).toNat).toNat))), (0, .ref (G.2.1 0)), (1, .int (iI (sh))), (2, .int (iI (a))), (3, .int (iI (b))), (4, .int (iI (t)))]) hC.1 hC.2.1 d_cr_ask_84 hl (by decide) rfl (fun ls hl => ?_)
          refine lv_iload hC.1 hC.2.1 d_cr_ask_86 (lv_at hl 0 rfl) ?_
          refine ir_if_ne (tgt := 101) hC.1 hC.2.1 d_cr_ask_88 (by decide) ⟨by omega, by omega⟩ (fun c_14 => ?_) (fun c_14 => ?_)
          · skip
            refine lv_iconst (v := iI (-1)) hC.1 hC.2.1 d_cr_ask_101 rfl ?_
            refine lv_iload hC.1 hC.2.1 d_cr_ask_102 (lv_at hl 0 rfl) ?_
            refine ir_sub hC.1 hC.2.1 d_cr_ask_104 ?_
            have hk_15 : kAs S sh a b t = 0 := (by first | (simp [kAs, c_1, c_5, c_8, c_11, c_14]; done) | (simp [kAs, c_1, c_5, c_8, c_11, c_14]; omega) | (simp [kAs, c_1, c_5, c_8, c_11, c_14]; done) | (simp [kAs, c_1, c_5, c_8, c_11, c_14]; omega) | omega)
            exact rx_W hC hr hlk hw hk_15 (by unfold askR; rw [if_neg (by assumption), if_neg (show ¬ askB S sh a b t = 0 from c_14)]; rfl) (by rw [if_pos hk_15]; unfold askS; rw [if_neg (by assumption), if_neg (show ¬ askB S sh a b t = 0 from c_14)]) d_cr_ask_105 (Nat.zero_le _) (Nat.zero_le _)
          · skip
            have u3 := up19_3 (pRt S sh a b).1 0 t
            refine lv_aload_n hC.1 hC.2.1 d_cr_ask_91 rfl (lv_at hl 1 rfl) ?_
            refine gf_cr_26 hC hw d_cr_ask_92 ?_
            refine go_W (ca_V (As := []) (rest := []) hC hw (c_ps_giveSlot l G (s_up ((pRt S sh a b).1) 19 0 t) hI_12 (by omega)) (cv_cr_122 hC rfl rfl (Nat.le_of_ble_eq_true rfl) (Nat.le_of_ble_eq_true rfl)) (by decide) rfl rfl rfl hl.1 rfl (Nat.le_of_ble_eq_true rfl) d_cr_ask_95 ⟨Nat.le_of_ble_eq_true rfl, Nat.le_of_ble_eq_true rfl⟩) hw (fun H locs hw => ?_)
            refine lv_goto (tgt := 105) hC.1 hC.2.1 d_cr_ask_98 (by decide) ?_
            have hk_16 : kAs S sh a b t = 0 := (by first | (simp [kAs, c_1, c_5, c_8, c_11, c_14]; done) | (simp [kAs, c_1, c_5, c_8, c_11, c_14]; omega) | (simp [kAs, c_1, c_5, c_8, c_11, c_14]; done) | (simp [kAs, c_1, c_5, c_8, c_11, c_14]; omega) | omega)
            exact rx_W hC hr hlk hw hk_16 (by unfold askR; rw [if_neg (by assumption), if_pos (show askB S sh a b t = 0 from c_14)]) (by rw [if_pos hk_16]; unfold askS; rw [if_neg (by assumption), if_pos (show askB S sh a b t = 0 from c_14)]) d_cr_ask_105 (Nat.zero_le _) (Nat.zero_le _)
        · skip
          refine lv_iconst (v := iI 0) hC.1 hC.2.1 d_cr_ask_66 rfl ?_
          have hk_17 : kAs S sh a b t = 0 := (by first | (simp [kAs, c_1, c_5, c_8, c_11]; done) | (simp [kAs, c_1, c_5, c_8, c_11]; omega) | (simp [kAs, c_1, c_5, c_8, c_11]; done) | (simp [kAs, c_1, c_5, c_8, c_11]; omega) | omega)
          exact rx_W hC hr hlk hw hk_17 (by unfold askR; rw [if_pos (by assumption)]) (by rw [if_pos hk_17]; unfold askS; rw [if_pos (by assumption)]) d_cr_ask_67 (Nat.zero_le _) (Nat.zero_le _)
      · skip
        have hk_18 : kAs S sh a b t = 2 := (by first | (simp [kAs, c_1, c_5, c_8]; done) | (simp [kAs, c_1, c_5, c_8]; omega) | (simp [kAs, c_1, c_5, c_8]; done) | (simp [kAs, c_1, c_5, c_8]; omega) | omega)
        exact th_S (X := "java/lang/IllegalStateException") (txt := "there are 30 slots") hC (hl0 e hadm) hw hxw hlk hex hl.1 tw_325 tw_326 tw_10 (by decide) own_69 (by decide +kernel) d_cr_ask_46 d_cr_ask_49 d_cr_ask_50 d_cr_ask_52 d_cr_ask_55 (Nat.le_of_ble_eq_true rfl) (Nat.le_of_ble_eq_true rfl) (Nat.le_of_ble_eq_true rfl) (Nat.le_of_ble_eq_true rfl) (by rw [hk_18]; decide) (by rw [hk_18]; decide +kernel) (by simp [hk_18])
    · skip
      have hk_19 : kAs S sh a b t = 1 := (by first | (simp [kAs, c_1, c_5]; done) | (simp [kAs, c_1, c_5]; omega) | (simp [kAs, c_1, c_5]; done) | (simp [kAs, c_1, c_5]; omega) | omega)
      exact th_S (X := "java/lang/IllegalArgumentException") (txt := "no such ship or points, or not such a time") hC (hl0 e hadm) hw hxw hlk hex hl.1 tw_256 tw_257 tw_9 (by decide) own_53 (by decide +kernel) d_cr_ask_24 d_cr_ask_27 d_cr_ask_28 d_cr_ask_30 d_cr_ask_33 (Nat.le_of_ble_eq_true rfl) (Nat.le_of_ble_eq_true rfl) (Nat.le_of_ble_eq_true rfl) (Nat.le_of_ble_eq_true rfl) (by rw [hk_19]; decide) (by rw [hk_19]; decide +kernel) (by simp [hk_19])
set_option maxHeartbeats 4000000 in
set_option maxRecDepth 100000 in
theorem c_cr_change (l : Launch) (hl0 : ∀ e : Env, l.admits e → e.platform.stackTraces = false) (G : Gt) (S : St) (k : Int) (t : Int) (hI : Inv S) (hk : i32 k) (ht : i32 t) : MetX l y_cr_change [.code y_cr_change b_cr_change 4 (some .int)] { frames := 7, cells := 1, slots := 6, locals := 127 } (va_Pc [.ref (G.2.1 0), .int (iI (k)), .int (iI (t))] (fun U => wu G S U ∧ exw txs U)) (qX G (if kCh S k t = 0 then chS S k t else S) (kCh S k t) (chR S k t)) 1 6 (gA G) := by
  refine mtx_of (by decide +kernel) (Nat.le_of_ble_eq_true rfl) ?_
  intro p e s m below meth c ls hadm hC hr hlk hex hw hxw hl
  have hC : CallFix p m c b_cr_change 4 s _ tws "ChannelRules" := hC
  have hl : lv_has ls 4 [(0, .ref (G.2.1 0)), (1, .int (iI (k))), (2, .int (iI (t)))] := hl
  have i0 := iv_0 hI 6
  have i3 := iv_3 hI 0
  refine lv_aload_n hC.1 hC.2.1 d_cr_change_0 rfl (lv_at hl 0 rfl) ?_
  refine gf_cr_26 hC hw d_cr_change_1 ?_
  refine lv_iload_n hC.1 hC.2.1 d_cr_change_4 rfl (lv_at hl 1 rfl) ?_
  refine go_R (ca_V (As := [.int (iI (k))]) (rest := []) hC hw (c_ps_hasSlot l G S k hI (by omega)) (cv_cr_134 hC rfl rfl (Nat.le_of_ble_eq_true rfl) (Nat.le_of_ble_eq_true rfl)) (by decide) rfl rfl rfl hl.1 rfl (Nat.le_of_ble_eq_true rfl) d_cr_change_5 ⟨Nat.le_of_ble_eq_true rfl, Nat.le_of_ble_eq_true rfl⟩) ?_
  refine ir_beq (tgt := 24) hC d_cr_change_8 (by decide) (fun c_1 => ?_) (fun c_1 => ?_)
  · skip
    have hk_2 : kCh S k t = 1 := (by first | (simp [kCh, c_1]; done) | (simp [kCh, c_1]; omega) | (simp [kCh, c_1]; done) | (simp [kCh, c_1]; omega) | omega)
    exact th_S (X := "java/lang/IllegalArgumentException") (txt := "no such slot, or not such a time") hC (hl0 e hadm) hw hxw hlk hex hl.1 tw_256 tw_257 tw_9 (by decide) own_53 (by decide +kernel) d_cr_change_24 d_cr_change_27 d_cr_change_28 d_cr_change_30 d_cr_change_33 (Nat.le_of_ble_eq_true rfl) (Nat.le_of_ble_eq_true rfl) (Nat.le_of_ble_eq_true rfl) (Nat.le_of_ble_eq_true rfl) (by rw [hk_2]; decide) (by rw [hk_2]; decide +kernel) (by simp [hk_2])
  · skip
    have w_3 := wn_t c_1
    refine lv_iload_n hC.1 hC.2.1 d_cr_change_11 rfl (lv_at hl 2 rfl) ?_
    refine lv_aload_n hC.1 hC.2.1 d_cr_change_12 rfl (lv_at hl 0 rfl) ?_
    refine gf_cr_41 hC hw d_cr_change_13 ?_
    have b_4 := iv_0 hI 6
    refine ir_ldc hC 100000 tw_186 (by decide +kernel) d_cr_change_16 ?_
    refine go_R (ca_S (As := [.int (iI (t)), .int (iI (S 0 6)), .int (iI (100000))]) (rest := []) hC hw (c_cr_isWithin l G S t (S 0 6) 100000 (by omega) (by omega) (by omega)) (cv_cr_56 hC rfl rfl (Nat.le_of_ble_eq_true rfl) (Nat.le_of_ble_eq_true rfl)) rfl hl.1 rfl (Nat.le_of_ble_eq_true rfl) d_cr_change_18 ⟨Nat.le_of_ble_eq_true rfl, Nat.le_of_ble_eq_true rfl⟩) ?_
    refine ir_bne (tgt := 34) hC d_cr_change_21 (by decide) (fun c_5 => ?_) (fun c_5 => ?_)
    · skip
      have w_6 := wn_t c_5
      refine lv_aload_n hC.1 hC.2.1 d_cr_change_34 rfl (lv_at hl 0 rfl) ?_
      refine lv_iload_n hC.1 hC.2.1 d_cr_change_35 rfl (lv_at hl 1 rfl) ?_
      refine go_R (ca_V (As := [.int (iI (k))]) (rest := []) hC hw (c_cr_isStillToBegin l G S k hI (by omega)) (cv_cr_139 hC rfl rfl (Nat.le_of_ble_eq_true rfl) (Nat.le_of_ble_eq_true rfl)) (by decide) rfl rfl rfl hl.1 rfl (Nat.le_of_ble_eq_true rfl) d_cr_change_36 ⟨Nat.le_of_ble_eq_true rfl, Nat.le_of_ble_eq_true rfl⟩) ?_
      refine ir_bne (tgt := 44) hC d_cr_change_39 (by decide) (fun c_7 => ?_) (fun c_7 => ?_)
      · skip
        have w_8 := stB_t c_7
        refine lv_aload_n hC.1 hC.2.1 d_cr_change_44 rfl (lv_at hl 0 rfl) ?_
        refine gf_cr_26 hC hw d_cr_change_45 ?_
        refine gf_cr_115 hC hw d_cr_change_48 ?_
        refine lv_iload_n hC.1 hC.2.1 d_cr_change_51 rfl (lv_at hl 1 rfl) ?_
        refine ld_19 hC hw (by omega) (by omega) d_cr_change_52 ?_
        have b_9 := iv_19 hI k.toNat
        refine lv_istore_n (lv' := [(3, .int (iI (S 19 k.toNat))), (0, .ref (G.2.1 0)), (1, .int (iI (k))), (2, .int (iI (t)))]) hC.1 hC.2.1 d_cr_change_53 rfl hl (by decide) rfl (fun ls hl => ?_)
        refine lv_aload_n hC.1 hC.2.1 d_cr_change_54 rfl (lv_at hl 1 rfl) ?_
        refine gf_cr_26 hC hw d_cr_change_55 ?_
        refine gf_cr_115 hC hw d_cr_change_58 ?_
        refine lv_iload_n hC.1 hC.2.1 d_cr_change_61 rfl (lv_at hl 2 rfl) ?_
        refine lv_iload_n hC.1 hC.2.1 d_cr_change_62 rfl (lv_at hl 3 rfl) ?_
        refine st_19 (x := t) (z := k) hC hw (by omega) (by omega) d_cr_change_63 (fun H locs hw => ?_)
        have hI_10 := Inv.up (q := 19) (i := k.toNat) (x := t) hI (by omega) (show _ ≤ 100000 from by omega)
        refine lv_aload_n hC.1 hC.2.1 d_cr_change_64 rfl (lv_at hl 1 rfl) ?_
        refine lv_iload_n hC.1 hC.2.1 d_cr_change_65 rfl (lv_at hl 2 rfl) ?_
        refine go_R (ca_V (As := [.int (iI (k))]) (rest := []) hC hw (c_cr_firstBar l G (s_up S 19 k.toNat t) k hI_10 (by omega)) (cv_cr_118 hC rfl rfl (Nat.le_of_ble_eq_true rfl) (Nat.le_of_ble_eq_true rfl)) (by decide) rfl rfl rfl hl.1 rfl (Nat.le_of_ble_eq_true rfl) d_cr_change_66 ⟨Nat.le_of_ble_eq_true rfl, Nat.le_of_ble_eq_true rfl⟩) ?_
        have r_11 := fBr_b (s_up S 19 k.toNat t) k 0 ((s_up S 19 k.toNat t) 20 k.toNat).toNat
        refine ir_if_eq (tgt := 84) hC.1 hC.2.1 d_cr_change_69 (by decide) ⟨by omega, by omega⟩ (fun c_12 => ?_) (fun c_12 => ?_)
        · skip
          refine lv_iconst (v := iI 1) hC.1 hC.2.1 d_cr_change_84 rfl ?_
          have hk_13 : kCh S k t = 0 := (by first | (simp [kCh, c_1, c_5, c_7, c_12]; done) | (simp [kCh, c_1, c_5, c_7, c_12]; omega) | (simp [kCh, c_1, c_5, c_7, c_12]; done) | (simp [kCh, c_1, c_5, c_7, c_12]; omega) | omega)
          exact rx_W hC hr hlk hw hk_13 (by simp [chR, c_1, c_5, c_7, c_12]) (by simp [hk_13, chS, c_1, c_5, c_7, c_12]) d_cr_change_85 (Nat.zero_le _) (Nat.zero_le _)
        · skip
          refine lv_aload_n hC.1 hC.2.1 d_cr_change_72 rfl (lv_at hl 1 rfl) ?_
          refine gf_cr_26 hC hw d_cr_change_73 ?_
          refine gf_cr_115 hC hw d_cr_change_76 ?_
          refine lv_iload_n hC.1 hC.2.1 d_cr_change_79 rfl (lv_at hl 2 rfl) ?_
          refine lv_iload_n hC.1 hC.2.1 d_cr_change_80 rfl (lv_at hl 0 rfl) ?_
          refine st_19 (x := S 19 k.toNat) (z := k) hC hw (by omega) (by omega) d_cr_change_81 (fun H locs hw => ?_)
          have hI_14 := Inv.up (q := 19) (i := k.toNat) (x := S 19 k.toNat) hI_10 (by omega) (show _ ≤ 100000 from by omega)
          refine lv_iconst (v := iI 0) hC.1 hC.2.1 d_cr_change_82 rfl ?_
          have hk_15 : kCh S k t = 0 := (by first | (simp [kCh, c_1, c_5, c_7, c_12]; done) | (simp [kCh, c_1, c_5, c_7, c_12]; omega) | (simp [kCh, c_1, c_5, c_7, c_12]; done) | (simp [kCh, c_1, c_5, c_7, c_12]; omega) | omega)
          exact rx_W hC hr hlk hw hk_15 (by simp [chR, c_1, c_5, c_7, c_12]) (by simp [hk_15, chS, c_1, c_5, c_7, c_12]) d_cr_change_83 (Nat.zero_le _) (Nat.zero_le _)
      · skip
        refine lv_iconst (v := iI (-1)) hC.1 hC.2.1 d_cr_change_42 rfl ?_
        have hk_16 : kCh S k t = 0 := (by first | (simp [kCh, c_1, c_5, c_7]; done) | (simp [kCh, c_1, c_5, c_7]; omega) | (simp [kCh, c_1, c_5, c_7]; done) | (simp [kCh, c_1, c_5, c_7]; omega) | omega)
        exact rx_W hC hr hlk hw hk_16 (by simp [chR, c_1, c_5, c_7]) (by simp [hk_16, chS, c_1, c_5, c_7]) d_cr_change_43 (Nat.zero_le _) (Nat.zero_le _)
    · skip
      have hk_17 : kCh S k t = 1 := (by first | (simp [kCh, c_1, c_5]; done) | (simp [kCh, c_1, c_5]; omega) | (simp [kCh, c_1, c_5]; done) | (simp [kCh, c_1, c_5]; omega) | omega)
      exact th_S (X := "java/lang/IllegalArgumentException") (txt := "no such slot, or not such a time") hC (hl0 e hadm) hw hxw hlk hex hl.1 tw_256 tw_257 tw_9 (by decide) own_53 (by decide +kernel) d_cr_change_24 d_cr_change_27 d_cr_change_28 d_cr_change_30 d_cr_change_33 (Nat.le_of_ble_eq_true rfl) (Nat.le_of_ble_eq_true rfl) (Nat.le_of_ble_eq_true rfl) (Nat.le_of_ble_eq_true rfl) (by rw [hk_17]; decide) (by rw [hk_17]; decide +kernel) (by simp [hk_17])
set_option maxHeartbeats 4000000 in
set_option maxRecDepth 100000 in
theorem c_cr_conflict (l : Launch) (hl0 : ∀ e : Env, l.admits e → e.platform.stackTraces = false) (G : Gt) (S : St) (i : Int) (w : Int) (hI : Inv S) (hi : i32 i) (hw : i32 w) : MetX l y_cr_conflict [.code y_cr_conflict b_cr_conflict 3 (some .int)] { frames := 7, cells := 1, slots := 6, locals := 130 } (va_Pc [.ref (G.2.1 0), .int (iI (i)), .int (iI (w))] (fun U => wu G S U ∧ exw txs U)) (qX G (if kCo w = 0 then coS S i else S) (kCo w) (coR S i w)) 1 6 (gA G) := by
  refine mtx_of (by decide +kernel) (Nat.le_of_ble_eq_true rfl) ?_
  intro p e s m below meth c ls hadm hC hr hlk hex hw hxw hl
  have hC : CallFix p m c b_cr_conflict 3 s _ tws "ChannelRules" := hC
  have hl : lv_has ls 3 [(0, .ref (G.2.1 0)), (1, .int (iI (i))), (2, .int (iI (w)))] := hl
  have i3 := iv_3 hI 0
  have ib := skO_n hI i (S 3 0).toNat (by omega)
  refine lv_iload_n hC.1 hC.2.1 d_cr_conflict_0 rfl (lv_at hl 2 rfl) ?_
  refine lv_iconst (v := iI 0) hC.1 hC.2.1 d_cr_conflict_1 rfl ?_
  refine lv_iconst (v := iI 3) hC.1 hC.2.1 d_cr_conflict_2 rfl ?_
  refine go_R (ca_S (As := [.int (iI (w)), .int (iI (0)), .int (iI (3))]) (rest := []) hC hw (c_cr_isWithin l G S w 0 3 (by omega) (by omega) (by omega)) (cv_cr_56 hC rfl rfl (Nat.le_of_ble_eq_true rfl) (Nat.le_of_ble_eq_true rfl)) rfl hl.1 rfl (Nat.le_of_ble_eq_true rfl) d_cr_conflict_3 ⟨Nat.le_of_ble_eq_true rfl, Nat.le_of_ble_eq_true rfl⟩) ?_
  refine ir_bne (tgt := 19) hC d_cr_conflict_6 (by decide) (fun c_1 => ?_) (fun c_1 => ?_)
  · skip
    have w_2 := wn_t c_1
    refine lv_iload_n hC.1 hC.2.1 d_cr_conflict_19 rfl (lv_at hl 1 rfl) ?_
    refine ir_if_lt (tgt := 32) hC.1 hC.2.1 d_cr_conflict_20 (by decide) ⟨by omega, by omega⟩ (fun c_3 => ?_) (fun c_3 => ?_)
    · skip
      refine lv_iconst (v := iI (-1)) hC.1 hC.2.1 d_cr_conflict_32 rfl ?_
      have hk_4 : kCo w = 0 := (by first | (simp [kCo, c_1, c_3]; done) | (simp [kCo, c_1, c_3]; omega) | (simp [kCo, c_1, c_3]; done) | (simp [kCo, c_1, c_3]; omega) | omega)
      exact rx_W hC hr hlk hw hk_4 (by first | (simp [coR, c_1, c_3]; done) | (unfold coR; rw [if_neg (by omega), if_neg (by omega)]) | (unfold coR; rw [if_neg (by omega), if_pos (by omega)])) (by first | (simp [hk_4, coS, c_1, c_3]; done) | (rw [if_pos hk_4]; unfold coS; rw [if_neg (by omega)])) d_cr_conflict_33 (Nat.zero_le _) (Nat.zero_le _)
    · skip
      refine lv_iload_n hC.1 hC.2.1 d_cr_conflict_23 rfl (lv_at hl 1 rfl) ?_
      refine lv_aload_n hC.1 hC.2.1 d_cr_conflict_24 rfl (lv_at hl 0 rfl) ?_
      refine lv_iload_n hC.1 hC.2.1 d_cr_conflict_25 rfl (lv_at hl 1 rfl) ?_
      refine go_W (ca_V (As := [.int (iI (i))]) (rest := [.int (iI (i))]) hC hw (c_cr_seekConflict l G S i hI (by omega)) (cv_cr_161 hC rfl rfl (Nat.le_of_ble_eq_true rfl) (Nat.le_of_ble_eq_true rfl)) (by decide) rfl rfl rfl hl.1 rfl (Nat.le_of_ble_eq_true rfl) d_cr_conflict_26 ⟨Nat.le_of_ble_eq_true rfl, Nat.le_of_ble_eq_true rfl⟩) hw (fun H locs hw => ?_)
      refine ir_lt (tgt := 34) hC.1 hC.2.1 d_cr_conflict_29 (by decide) ⟨by omega, by omega⟩ ⟨by omega, by omega⟩ (fun c_5 => ?_) (fun c_5 => ?_)
      · skip
        refine lv_aload_n hC.1 hC.2.1 d_cr_conflict_34 rfl (lv_at hl 0 rfl) ?_
        refine gf_cr_34 hC hw d_cr_conflict_35 ?_
        refine lv_iload_n hC.1 hC.2.1 d_cr_conflict_38 rfl (lv_at hl 2 rfl) ?_
        refine ld_5 hC hw (by omega) (by omega) d_cr_conflict_39 ?_
        have b_6 := iv_5 (skO_I hI i (S 3 0).toNat (by have := iv_3 hI 0; omega)) w.toNat
        have hk_7 : kCo w = 0 := (by first | (simp [kCo, c_1, c_3, c_5]; done) | (simp [kCo, c_1, c_3, c_5]; omega) | (simp [kCo, c_1, c_3, c_5]; done) | (simp [kCo, c_1, c_3, c_5]; omega) | omega)
        exact rx_W hC hr hlk hw hk_7 (by first | (simp [coR, c_1, c_3, c_5]; done) | (unfold coR; rw [if_neg (by omega), if_neg (by omega)]) | (unfold coR; rw [if_neg (by omega), if_pos (by omega)])) (by first | (simp [hk_7, coS, c_1, c_3, c_5]; done) | (rw [if_pos hk_7]; unfold coS; rw [if_neg (by omega)])) d_cr_conflict_40 (Nat.zero_le _) (Nat.zero_le _)
      · skip
        refine lv_iconst (v := iI (-1)) hC.1 hC.2.1 d_cr_conflict_32 rfl ?_
        have hk_8 : kCo w = 0 := (by first | (simp [kCo, c_1, c_3, c_5]; done) | (simp [kCo, c_1, c_3, c_5]; omega) | (simp [kCo, c_1, c_3, c_5]; done) | (simp [kCo, c_1, c_3, c_5]; omega) | omega)
        exact rx_W hC hr hlk hw hk_8 (by first | (simp [coR, c_1, c_3, c_5]; done) | (unfold coR; rw [if_neg (by omega), if_neg (by omega)]) | (unfold coR; rw [if_neg (by omega), if_pos (by omega)])) (by first | (simp [hk_8, coS, c_1, c_3, c_5]; done) | (rw [if_pos hk_8]; unfold coS; rw [if_neg (by omega)])) d_cr_conflict_33 (Nat.zero_le _) (Nat.zero_le _)
  · skip
    have hk_9 : kCo w = 1 := (by first | (simp [kCo, c_1]; done) | (simp [kCo, c_1]; omega) | (simp [kCo, c_1]; done) | (simp [kCo, c_1]; omega) | omega)
    exact th_S (X := "java/lang/IllegalArgumentException") (txt := "no such side") hC (hl0 e hadm) hw hxw hlk hex hl.1 tw_256 tw_257 tw_9 (by decide) own_53 (by decide +kernel) d_cr_conflict_9 d_cr_conflict_12 d_cr_conflict_13 d_cr_conflict_15 d_cr_conflict_18 (Nat.le_of_ble_eq_true rfl) (Nat.le_of_ble_eq_true rfl) (Nat.le_of_ble_eq_true rfl) (Nat.le_of_ble_eq_true rfl) (by rw [hk_9]; decide) (by rw [hk_9]; decide +kernel) (by simp [hk_9])
set_option maxHeartbeats 4000000 in
set_option maxRecDepth 100000 in
theorem c_cr_at (l : Launch) (hl0 : ∀ e : Env, l.admits e → e.platform.stackTraces = false) (G : Gt) (S : St) (k : Int) (i : Int) (w : Int) (hI : Inv S) (hk : i32 k) (hi : i32 i) (hw : i32 w) : MetX l y_cr_at [.code y_cr_at b_cr_at 4 (some .int)] { frames := 7, cells := 1, slots := 6, locals := 120 } (va_Pc [.ref (G.2.1 0), .int (iI (k)), .int (iI (i)), .int (iI (w))] (fun U => wu G S U ∧ exw txs U)) (qX G (S) (kAt S k i w) (atR S k i w)) 1 6 (gA G) := by
  refine mtx_of (by decide +kernel) (Nat.le_of_ble_eq_true rfl) ?_
  intro p e s m below meth c ls hadm hC hr hlk hex hw hxw hl
  have hC : CallFix p m c b_cr_at 4 s _ tws "ChannelRules" := hC
  have hl : lv_has ls 4 [(0, .ref (G.2.1 0)), (1, .int (iI (k))), (2, .int (iI (i))), (3, .int (iI (w)))] := hl
  have i3 := iv_3 hI 0
  have i20 := iv_20 hI k.toNat
  refine lv_aload_n hC.1 hC.2.1 d_cr_at_0 rfl (lv_at hl 0 rfl) ?_
  refine gf_cr_26 hC hw d_cr_at_1 ?_
  refine lv_iload_n hC.1 hC.2.1 d_cr_at_4 rfl (lv_at hl 1 rfl) ?_
  refine go_R (ca_V (As := [.int (iI (k))]) (rest := []) hC hw (c_ps_hasSlot l G S k hI (by omega)) (cv_cr_134 hC rfl rfl (Nat.le_of_ble_eq_true rfl) (Nat.le_of_ble_eq_true rfl)) (by decide) rfl rfl rfl hl.1 rfl (Nat.le_of_ble_eq_true rfl) d_cr_at_5 ⟨Nat.le_of_ble_eq_true rfl, Nat.le_of_ble_eq_true rfl⟩) ?_
  refine ir_beq (tgt := 37) hC d_cr_at_8 (by decide) (fun c_1 => ?_) (fun c_1 => ?_)
  · skip
    have hk_2 : kAt S k i w = 3 := (by first | (simp [kAt, c_1]; done) | (simp [kAt, c_1]; omega) | (simp [kAt, c_1]; done) | (simp [kAt, c_1]; omega) | omega)
    exact th_S (X := "java/lang/IndexOutOfBoundsException") (txt := "no such slot, stay or what") hC (hl0 e hadm) hw hxw hlk hex hl.1 tw_534 tw_535 tw_12 (by decide) own_168 (by decide +kernel) d_cr_at_37 d_cr_at_40 d_cr_at_41 d_cr_at_43 d_cr_at_46 (Nat.le_of_ble_eq_true rfl) (Nat.le_of_ble_eq_true rfl) (Nat.le_of_ble_eq_true rfl) (Nat.le_of_ble_eq_true rfl) (by rw [hk_2]; decide) (by rw [hk_2]; decide +kernel) (by simp [hk_2])
  · skip
    have w_3 := wn_t c_1
    refine lv_iload_n hC.1 hC.2.1 d_cr_at_11 rfl (lv_at hl 2 rfl) ?_
    refine ir_if_lt (tgt := 37) hC.1 hC.2.1 d_cr_at_12 (by decide) ⟨by omega, by omega⟩ (fun c_4 => ?_) (fun c_4 => ?_)
    · skip
      have hk_5 : kAt S k i w = 3 := (by first | (simp [kAt, c_1, c_4]; done) | (simp [kAt, c_1, c_4]; omega) | (simp [kAt, c_1, c_4]; done) | (simp [kAt, c_1, c_4]; omega) | omega)
      exact th_S (X := "java/lang/IndexOutOfBoundsException") (txt := "no such slot, stay or what") hC (hl0 e hadm) hw hxw hlk hex hl.1 tw_534 tw_535 tw_12 (by decide) own_168 (by decide +kernel) d_cr_at_37 d_cr_at_40 d_cr_at_41 d_cr_at_43 d_cr_at_46 (Nat.le_of_ble_eq_true rfl) (Nat.le_of_ble_eq_true rfl) (Nat.le_of_ble_eq_true rfl) (Nat.le_of_ble_eq_true rfl) (by rw [hk_5]; decide) (by rw [hk_5]; decide +kernel) (by simp [hk_5])
    · skip
      refine lv_iload_n hC.1 hC.2.1 d_cr_at_15 rfl (lv_at hl 2 rfl) ?_
      refine lv_aload_n hC.1 hC.2.1 d_cr_at_16 rfl (lv_at hl 0 rfl) ?_
      refine gf_cr_26 hC hw d_cr_at_17 ?_
      refine gf_cr_104 hC hw d_cr_at_20 ?_
      refine lv_iload_n hC.1 hC.2.1 d_cr_at_23 rfl (lv_at hl 1 rfl) ?_
      refine ld_20 hC hw (by omega) (by omega) d_cr_at_24 ?_
      have b_6 := iv_20 hI k.toNat
      refine ir_ge (tgt := 37) hC.1 hC.2.1 d_cr_at_25 (by decide) ⟨by omega, by omega⟩ ⟨by omega, by omega⟩ (fun c_7 => ?_) (fun c_7 => ?_)
      · skip
        have hk_8 : kAt S k i w = 3 := (by first | (simp [kAt, c_1, c_4, c_7]; done) | (simp [kAt, c_1, c_4, c_7]; omega) | (simp [kAt, c_1, c_4, c_7]; done) | (simp [kAt, c_1, c_4, c_7]; omega) | omega)
        exact th_S (X := "java/lang/IndexOutOfBoundsException") (txt := "no such slot, stay or what") hC (hl0 e hadm) hw hxw hlk hex hl.1 tw_534 tw_535 tw_12 (by decide) own_168 (by decide +kernel) d_cr_at_37 d_cr_at_40 d_cr_at_41 d_cr_at_43 d_cr_at_46 (Nat.le_of_ble_eq_true rfl) (Nat.le_of_ble_eq_true rfl) (Nat.le_of_ble_eq_true rfl) (Nat.le_of_ble_eq_true rfl) (by rw [hk_8]; decide) (by rw [hk_8]; decide +kernel) (by simp [hk_8])
      · skip
        refine lv_iload_n hC.1 hC.2.1 d_cr_at_28 rfl (lv_at hl 3 rfl) ?_
        refine lv_iconst (v := iI 0) hC.1 hC.2.1 d_cr_at_29 rfl ?_
        refine lv_iconst (v := iI 3) hC.1 hC.2.1 d_cr_at_30 rfl ?_
        refine go_R (ca_S (As := [.int (iI (w)), .int (iI (0)), .int (iI (3))]) (rest := []) hC hw (c_cr_isWithin l G S w 0 3 (by omega) (by omega) (by omega)) (cv_cr_56 hC rfl rfl (Nat.le_of_ble_eq_true rfl) (Nat.le_of_ble_eq_true rfl)) rfl hl.1 rfl (Nat.le_of_ble_eq_true rfl) d_cr_at_31 ⟨Nat.le_of_ble_eq_true rfl, Nat.le_of_ble_eq_true rfl⟩) ?_
        refine ir_bne (tgt := 47) hC d_cr_at_34 (by decide) (fun c_9 => ?_) (fun c_9 => ?_)
        · skip
          have w_10 := wn_t c_9
          refine lv_iload_n hC.1 hC.2.1 d_cr_at_47 rfl (lv_at hl 3 rfl) ?_
          by_cases e_11 : w = 0
          · refine ir_tin (tgt := 76) hC d_cr_at_48 ⟨by omega, by omega⟩ 0 (by omega) (by omega) rfl (by decide) ?_
            refine lv_aload_n hC.1 hC.2.1 d_cr_at_76 rfl (lv_at hl 0 rfl) ?_
            refine gf_cr_26 hC hw d_cr_at_77 ?_
            refine lv_iload_n hC.1 hC.2.1 d_cr_at_80 rfl (lv_at hl 1 rfl) ?_
            refine lv_iload_n hC.1 hC.2.1 d_cr_at_81 rfl (lv_at hl 2 rfl) ?_
            refine go_R (ca_V (As := [.int (iI (k)), .int (iI (i))]) (rest := []) hC hw (c_ps_pieceOf l G S k i hI (by omega) (by omega)) (cv_cr_100 hC rfl rfl (Nat.le_of_ble_eq_true rfl) (Nat.le_of_ble_eq_true rfl)) (by decide) rfl rfl rfl hl.1 rfl (Nat.le_of_ble_eq_true rfl) d_cr_at_82 ⟨Nat.le_of_ble_eq_true rfl, Nat.le_of_ble_eq_true rfl⟩) ?_
            have r_12 := pOf_b hI k i
            have hk_13 : kAt S k i w = 0 := (by first | (simp [kAt, c_1, c_4, c_7, c_9, e_11]; done) | (simp [kAt, c_1, c_4, c_7, c_9, e_11]; omega) | (simp [kAt, c_1, c_4, c_7, c_9]; done) | (simp [kAt, c_1, c_4, c_7, c_9]; omega) | omega)
            exact rx_W hC hr hlk hw hk_13 (by first | (simp [atR, c_1, c_4, c_7, c_9, e_11]; done) | (simp [atR, c_1, c_4, c_7, c_9, e_11]; omega)) rfl d_cr_at_85 (Nat.zero_le _) (Nat.zero_le _)
          · skip
            by_cases e_14 : w = 1
            · refine ir_tin (tgt := 86) hC d_cr_at_48 ⟨by omega, by omega⟩ 1 (by omega) (by omega) rfl (by decide) ?_
              refine lv_aload_n hC.1 hC.2.1 d_cr_at_86 rfl (lv_at hl 0 rfl) ?_
              refine gf_cr_26 hC hw d_cr_at_87 ?_
              refine lv_iload_n hC.1 hC.2.1 d_cr_at_90 rfl (lv_at hl 1 rfl) ?_
              refine lv_iload_n hC.1 hC.2.1 d_cr_at_91 rfl (lv_at hl 2 rfl) ?_
              refine go_R (ca_V (As := [.int (iI (k)), .int (iI (i))]) (rest := []) hC hw (c_ps_entersAt l G S k i hI (by omega) (by omega)) (cv_cr_169 hC rfl rfl (Nat.le_of_ble_eq_true rfl) (Nat.le_of_ble_eq_true rfl)) (by decide) rfl rfl rfl hl.1 rfl (Nat.le_of_ble_eq_true rfl) d_cr_at_92 ⟨Nat.le_of_ble_eq_true rfl, Nat.le_of_ble_eq_true rfl⟩) ?_
              have r_15 := enA_b hI k i
              have hk_16 : kAt S k i w = 0 := (by first | (simp [kAt, c_1, c_4, c_7, c_9, e_11, e_14]; done) | (simp [kAt, c_1, c_4, c_7, c_9, e_11, e_14]; omega) | (simp [kAt, c_1, c_4, c_7, c_9]; done) | (simp [kAt, c_1, c_4, c_7, c_9]; omega) | omega)
              exact rx_W hC hr hlk hw hk_16 (by first | (simp [atR, c_1, c_4, c_7, c_9, e_11, e_14]; done) | (simp [atR, c_1, c_4, c_7, c_9, e_11, e_14]; omega)) rfl d_cr_at_95 (Nat.zero_le _) (Nat.zero_le _)
            · skip
              by_cases e_17 : w = 2
              · refine ir_tin (tgt := 96) hC d_cr_at_48 ⟨by omega, by omega⟩ 2 (by omega) (by omega) rfl (by decide) ?_
                refine lv_aload_n hC.1 hC.2.1 d_cr_at_96 rfl (lv_at hl 0 rfl) ?_
                refine gf_cr_26 hC hw d_cr_at_97 ?_
                refine lv_iload_n hC.1 hC.2.1 d_cr_at_100 rfl (lv_at hl 1 rfl) ?_
                refine lv_iload_n hC.1 hC.2.1 d_cr_at_101 rfl (lv_at hl 2 rfl) ?_
                refine go_R (ca_V (As := [.int (iI (k)), .int (iI (i))]) (rest := []) hC hw (c_ps_leavesAt l G S k i hI (by omega) (by omega)) (cv_cr_172 hC rfl rfl (Nat.le_of_ble_eq_true rfl) (Nat.le_of_ble_eq_true rfl)) (by decide) rfl rfl rfl hl.1 rfl (Nat.le_of_ble_eq_true rfl) d_cr_at_102 ⟨Nat.le_of_ble_eq_true rfl, Nat.le_of_ble_eq_true rfl⟩) ?_
                have r_18 := lvA_b hI k i
                have hk_19 : kAt S k i w = 0 := (by first | (simp [kAt, c_1, c_4, c_7, c_9, e_11, e_14, e_17]; done) | (simp [kAt, c_1, c_4, c_7, c_9, e_11, e_14, e_17]; omega) | (simp [kAt, c_1, c_4, c_7, c_9]; done) | (simp [kAt, c_1, c_4, c_7, c_9]; omega) | omega)
                exact rx_W hC hr hlk hw hk_19 (by first | (simp [atR, c_1, c_4, c_7, c_9, e_11, e_14, e_17]; done) | (simp [atR, c_1, c_4, c_7, c_9, e_11, e_14, e_17]; omega)) rfl d_cr_at_105 (Nat.zero_le _) (Nat.zero_le _)
              · skip
                refine ir_tout (tgt := 106) hC d_cr_at_48 ⟨by omega, by omega⟩ (by omega) (by decide) ?_
                refine lv_aload_n hC.1 hC.2.1 d_cr_at_106 rfl (lv_at hl 0 rfl) ?_
                refine gf_cr_26 hC hw d_cr_at_107 ?_
                refine lv_iload_n hC.1 hC.2.1 d_cr_at_110 rfl (lv_at hl 1 rfl) ?_
                refine lv_iload_n hC.1 hC.2.1 d_cr_at_111 rfl (lv_at hl 2 rfl) ?_
                refine go_R (ca_V (As := [.int (iI (k)), .int (iI (i))]) (rest := []) hC hw (c_ps_isForward l G S k i hI (by omega) (by omega)) (cv_cr_175 hC rfl rfl (Nat.le_of_ble_eq_true rfl) (Nat.le_of_ble_eq_true rfl)) (by decide) rfl rfl rfl hl.1 rfl (Nat.le_of_ble_eq_true rfl) d_cr_at_112 ⟨Nat.le_of_ble_eq_true rfl, Nat.le_of_ble_eq_true rfl⟩) ?_
                have r_20 := fOf_b hI k i
                refine ir_if_eq (tgt := 122) hC.1 hC.2.1 d_cr_at_115 (by decide) ⟨by omega, by omega⟩ (fun c_21 => ?_) (fun c_21 => ?_)
                · skip
                  refine lv_iconst (v := iI 0) hC.1 hC.2.1 d_cr_at_122 rfl ?_
                  have hk_22 : kAt S k i w = 0 := (by first | (simp [kAt, c_1, c_4, c_7, c_9, e_11, e_14, e_17, c_21]; done) | (simp [kAt, c_1, c_4, c_7, c_9, e_11, e_14, e_17, c_21]; omega) | (simp [kAt, c_1, c_4, c_7, c_9, c_21]; done) | (simp [kAt, c_1, c_4, c_7, c_9, c_21]; omega) | omega)
                  exact rx_W hC hr hlk hw hk_22 (by first | (simp [atR, c_1, c_4, c_7, c_9, e_11, e_14, e_17, c_21]; done) | (simp [atR, c_1, c_4, c_7, c_9, e_11, e_14, e_17, c_21]; omega)) rfl d_cr_at_123 (Nat.zero_le _) (Nat.zero_le _)
                · skip
                  refine lv_iconst (v := iI 1) hC.1 hC.2.1 d_cr_at_118 rfl ?_
                  refine lv_goto (tgt := 123) hC.1 hC.2.1 d_cr_at_119 (by decide) ?_
                  have hk_23 : kAt S k i w = 0 := (by first | (simp [kAt, c_1, c_4, c_7, c_9, e_11, e_14, e_17, c_21]; done) | (simp [kAt, c_1, c_4, c_7, c_9, e_11, e_14, e_17, c_21]; omega) | (simp [kAt, c_1, c_4, c_7, c_9, c_21]; done) | (simp [kAt, c_1, c_4, c_7, c_9, c_21]; omega) | omega)
                  exact rx_W hC hr hlk hw hk_23 (by first | (simp [atR, c_1, c_4, c_7, c_9, e_11, e_14, e_17, c_21]; done) | (simp [atR, c_1, c_4, c_7, c_9, e_11, e_14, e_17, c_21]; omega)) rfl d_cr_at_123 (Nat.zero_le _) (Nat.zero_le _)
        · skip
          have hk_24 : kAt S k i w = 3 := (by first | (simp [kAt, c_1, c_4, c_7, c_9]; done) | (simp [kAt, c_1, c_4, c_7, c_9]; omega) | (simp [kAt, c_1, c_4, c_7, c_9]; done) | (simp [kAt, c_1, c_4, c_7, c_9]; omega) | omega)
          exact th_S (X := "java/lang/IndexOutOfBoundsException") (txt := "no such slot, stay or what") hC (hl0 e hadm) hw hxw hlk hex hl.1 tw_534 tw_535 tw_12 (by decide) own_168 (by decide +kernel) d_cr_at_37 d_cr_at_40 d_cr_at_41 d_cr_at_43 d_cr_at_46 (Nat.le_of_ble_eq_true rfl) (Nat.le_of_ble_eq_true rfl) (Nat.le_of_ble_eq_true rfl) (Nat.le_of_ble_eq_true rfl) (by rw [hk_24]; decide) (by rw [hk_24]; decide +kernel) (by simp [hk_24])
set_option maxHeartbeats 4000000 in
set_option maxRecDepth 100000 in
theorem c_cr_earliest (l : Launch) (hl0 : ∀ e : Env, l.admits e → e.platform.stackTraces = false) (G : Gt) (S : St) (sh : Int) (a : Int) (b : Int) (t : Int) (hI : Inv S) (hsp : ∀ j : Nat, (j : Int) < S 2 0 → 1 ≤ S 15 j) (hsh : i32 sh) (ha : i32 a) (hb : i32 b) (ht : i32 t) : MetX l y_cr_earliest [.code y_cr_earliest b_cr_earliest 8 (some .int)] { frames := 7, cells := 1, slots := 6, locals := 151 } (va_Pc [.ref (G.2.1 0), .int (iI (sh)), .int (iI (a)), .int (iI (b)), .int (iI (t))] (fun U => wu G S U ∧ exw txs U)) (qX G (if kEa S sh a b t = 0 then (eaP S sh a b t).1 else S) (kEa S sh a b t) ((eaP S sh a b t).2)) 1 6 (gA G) := by
  refine mtx_of (by decide +kernel) (Nat.le_of_ble_eq_true rfl) ?_
  intro p e s m below meth c ls hadm hC hr hlk hex hw hxw hl
  have hC : CallFix p m c b_cr_earliest 8 s _ tws "ChannelRules" := hC
  have hl : lv_has ls 8 [(0, .ref (G.2.1 0)), (1, .int (iI (sh))), (2, .int (iI (a))), (3, .int (iI (b))), (4, .int (iI (t)))] := hl
  have i0 := iv_0 hI 6
  have i2 := iv_2 hI 0
  refine lv_aload_n hC.1 hC.2.1 d_cr_earliest_0 rfl (lv_at hl 0 rfl) ?_
  refine lv_iload_n hC.1 hC.2.1 d_cr_earliest_1 rfl (lv_at hl 1 rfl) ?_
  refine lv_iload_n hC.1 hC.2.1 d_cr_earliest_2 rfl (lv_at hl 2 rfl) ?_
  refine lv_iload_n hC.1 hC.2.1 d_cr_earliest_3 rfl (lv_at hl 3 rfl) ?_
  refine go_R (ca_V (As := [.int (iI (sh)), .int (iI (a)), .int (iI (b))]) (rest := []) hC hw (c_cr_isVoyage l G S sh a b hI (by omega) (by omega) (by omega)) (cv_cr_92 hC rfl rfl (Nat.le_of_ble_eq_true rfl) (Nat.le_of_ble_eq_true rfl)) (by decide) rfl rfl rfl hl.1 rfl (Nat.le_of_ble_eq_true rfl) d_cr_earliest_4 ⟨Nat.le_of_ble_eq_true rfl, Nat.le_of_ble_eq_true rfl⟩) ?_
  refine ir_beq (tgt := 24) hC d_cr_earliest_7 (by decide) (fun c_1 => ?_) (fun c_1 => ?_)
  · skip
    have hk_2 : kEa S sh a b t = 1 := (by first | (simp [kEa, c_1]; done) | (simp [kEa, c_1]; omega) | (simp [kEa, c_1]; done) | (simp [kEa, c_1]; omega) | omega)
    exact th_S (X := "java/lang/IllegalArgumentException") (txt := "no such ship or points, or not such a time") hC (hl0 e hadm) hw hxw hlk hex hl.1 tw_256 tw_257 tw_9 (by decide) own_53 (by decide +kernel) d_cr_earliest_24 d_cr_earliest_27 d_cr_earliest_28 d_cr_earliest_30 d_cr_earliest_33 (Nat.le_of_ble_eq_true rfl) (Nat.le_of_ble_eq_true rfl) (Nat.le_of_ble_eq_true rfl) (Nat.le_of_ble_eq_true rfl) (by rw [hk_2]; decide) (by rw [hk_2]; decide +kernel) (by simp [hk_2])
  · skip
    have w_3 := voy_t c_1
    refine lv_iload hC.1 hC.2.1 d_cr_earliest_10 (lv_at hl 4 rfl) ?_
    refine lv_aload_n hC.1 hC.2.1 d_cr_earliest_12 rfl (lv_at hl 0 rfl) ?_
    refine gf_cr_41 hC hw d_cr_earliest_13 ?_
    have b_4 := iv_0 hI 6
    refine ir_ldc hC 100000 tw_186 (by decide +kernel) d_cr_earliest_16 ?_
    refine go_R (ca_S (As := [.int (iI (t)), .int (iI (S 0 6)), .int (iI (100000))]) (rest := []) hC hw (c_cr_isWithin l G S t (S 0 6) 100000 (by omega) (by omega) (by omega)) (cv_cr_56 hC rfl rfl (Nat.le_of_ble_eq_true rfl) (Nat.le_of_ble_eq_true rfl)) rfl hl.1 rfl (Nat.le_of_ble_eq_true rfl) d_cr_earliest_18 ⟨Nat.le_of_ble_eq_true rfl, Nat.le_of_ble_eq_true rfl⟩) ?_
    refine ir_bne (tgt := 34) hC d_cr_earliest_21 (by decide) (fun c_5 => ?_) (fun c_5 => ?_)
    · skip
      have w_6 := wn_t c_5
      refine lv_aload_n hC.1 hC.2.1 d_cr_earliest_34 rfl (lv_at hl 0 rfl) ?_
      refine lv_iload_n hC.1 hC.2.1 d_cr_earliest_35 rfl (lv_at hl 1 rfl) ?_
      refine lv_iload_n hC.1 hC.2.1 d_cr_earliest_36 rfl (lv_at hl 2 rfl) ?_
      refine lv_iload_n hC.1 hC.2.1 d_cr_earliest_37 rfl (lv_at hl 3 rfl) ?_
      refine go_W (ca_V (As := [.int (iI (sh)), .int (iI (a)), .int (iI (b))]) (rest := []) hC hw (c_cr_planRoute l G S sh a b hI (by omega) (by omega) (by omega) (hsp sh.toNat (by omega))) (cv_cr_97 hC rfl rfl (Nat.le_of_ble_eq_true rfl) (Nat.le_of_ble_eq_true rfl)) (by decide) rfl rfl rfl hl.1 rfl (Nat.le_of_ble_eq_true rfl) d_cr_earliest_38 ⟨Nat.le_of_ble_eq_true rfl, Nat.le_of_ble_eq_true rfl⟩) hw (fun H locs hw => ?_)
      have r_7 := pRt_b S sh a b
      have r_8 := pRt_3 S sh a b
      refine ir_if_ne (tgt := 46) hC.1 hC.2.1 d_cr_earliest_41 (by decide) ⟨by omega, by omega⟩ (fun c_9 => ?_) (fun c_9 => ?_)
      · skip
        refine lv_iload hC.1 hC.2.1 d_cr_earliest_46 (lv_at hl 4 rfl) ?_
        refine lv_sipush (v := iI 2880) hC.1 hC.2.1 d_cr_earliest_48 (by decide +kernel) ?_
        refine ir_add hC.1 hC.2.1 d_cr_earliest_51 ?_
        refine ir_ldc hC 100000 tw_186 (by decide +kernel) d_cr_earliest_52 ?_
        refine ir_min hC tw_401 tw_402 tw_11 tw_403 hl.1 (Nat.le_of_ble_eq_true rfl) (Nat.le_of_ble_eq_true rfl) (Nat.zero_le _) (Nat.zero_le _) ⟨by omega, by omega⟩ (by decide) d_cr_earliest_54 ?_
        refine lv_istore (lv' := [(5, .int (iI (min (t + 2880) 100000))), (0, .ref (G.2.1 0)), (1, .int (iI (sh))), (2, .int (iI (a))), (3, .int (iI (b))), (4, .int (iI (t)))]) hC.1 hC.2.1 d_cr_earliest_57 hl (by decide) rfl (fun ls hl => ?_)
        refine lv_iload hC.1 hC.2.1 d_cr_earliest_59 (lv_at hl 5 rfl) ?_
        refine lv_istore (lv' := [(6, .int (iI (t))), (5, .int (iI (min (t + 2880) 100000))), (0, .ref (G.2.1 0)), (1, .int (iI (sh))), (2, .int (iI (a))), (3, .int (iI (b))), (4, .int (iI (t)))]) hC.1 hC.2.1 d_cr_earliest_61 hl (by decide) rfl (fun ls hl => ?_)
        have loop_63 : ∀ (nn : Nat) (f : Nat) (T : St) (x6 : Int), (min (t + 2880) 100000 - x6 + 1).toNat < nn → t ≤ x6 ∧ x6 ≤ 2000000 → Inv T → min (t + 2880) 100000 - x6 < (f : Int) → eaP S sh a b t = eaL (min (t + 2880) 100000) f T x6 → ∀ (H : Heap) (locs : List Loc) (ls : Array Slot), wh G (T) s H locs → lv_has ls 8 [(6, .int (iI (x6))), (5, .int (iI (min (t + 2880) 100000))), (0, .ref (G.2.1 0)), (1, .int (iI (sh))), (2, .int (iI (a))), (3, .int (iI (b))), (4, .int (iI (t)))] → W p l e { frames := 7, cells := 1, slots := 6, locals := 151 } s m ([.ref (G.2.1 0), .int (iI (sh)), .int (iI (a)), .int (iI (b)), .int (iI (t))] : List Value).toArray below meth c H locs 0 0 (MX below (qX G (if kEa S sh a b t = 0 then (eaP S sh a b t).1 else S) (kEa S sh a b t) ((eaP S sh a b t).2)) ([.ref (G.2.1 0), .int (iI (sh)), .int (iI (a)), .int (iI (b)), .int (iI (t))] : List Value).toArray s 1 6 (gA G)) (F0 m 63 ls []) := by
          intro nn
          induction nn with
          | zero => intros; omega
          | succ nn ih_63 =>
            intro f T x6 hms_63  hv0 hv1 hv2 hv3 H locs ls hw hl
            refine lv_iload hC.1 hC.2.1 d_cr_earliest_63 (lv_at hl 0 rfl) ?_
            refine lv_iload hC.1 hC.2.1 d_cr_earliest_65 (lv_at hl 1 rfl) ?_
            refine ir_gt (tgt := 105) hC.1 hC.2.1 d_cr_earliest_67 (by decide) ⟨by omega, by omega⟩ ⟨by omega, by omega⟩ (fun c_10 => ?_) (fun c_10 => ?_)
            · skip
              refine lv_iconst (v := iI (-1)) hC.1 hC.2.1 d_cr_earliest_105 rfl ?_
              have hk_11 : kEa S sh a b t = 0 := (by first | (simp [kEa, c_1, c_5, c_9, c_10]; done) | (simp [kEa, c_1, c_5, c_9, c_10]; omega) | (simp [kEa, c_1, c_5, c_9, c_10]; done) | (simp [kEa, c_1, c_5, c_9, c_10]; omega) | omega)
              exact rx_W hC hr hlk hw hk_11 (by rw [hv3, eaL_x _ f T x6 (by omega)]) (by rw [if_pos hk_11, hv3, eaL_x _ f T x6 (by omega)]) d_cr_earliest_106 (Nat.zero_le _) (Nat.zero_le _)
            · skip
              refine lv_aload_n hC.1 hC.2.1 d_cr_earliest_70 rfl (lv_at hl 2 rfl) ?_
              refine gf_cr_26 hC hw d_cr_earliest_71 ?_
              refine gf_cr_115 hC hw d_cr_earliest_74 ?_
              refine lv_iconst (v := iI 0) hC.1 hC.2.1 d_cr_earliest_77 rfl ?_
              refine lv_iload hC.1 hC.2.1 d_cr_earliest_78 (lv_at hl 0 rfl) ?_
              refine sc_19 0 (x := x6) hC hw (by decide) d_cr_earliest_80 (fun H locs hw => ?_)
              have hI_12 := Inv.up (q := 19) (i := 0) (x := x6) hv1 (by omega) (show _ ≤ 100000 from by omega)
              refine lv_aload_n hC.1 hC.2.1 d_cr_earliest_81 rfl (lv_at hl 2 rfl) ?_
              refine go_R (ca_V (As := []) (rest := []) hC hw (c_cr_planWait l G (s_up T 19 0 x6) hI_12) (cv_cr_131 hC rfl rfl (Nat.le_of_ble_eq_true rfl) (Nat.le_of_ble_eq_true rfl)) (by decide) rfl rfl rfl hl.1 rfl (Nat.le_of_ble_eq_true rfl) d_cr_earliest_82 ⟨Nat.le_of_ble_eq_true rfl, Nat.le_of_ble_eq_true rfl⟩) ?_
              have r_13 := pWt_b hI_12 ((s_up T 19 0 x6) 20 0).toNat
              refine lv_istore (lv' := [(7, .int (iI (pWt (s_up T 19 0 x6) ((s_up T 19 0 x6) 20 0).toNat))), (6, .int (iI (x6))), (5, .int (iI (min (t + 2880) 100000))), (0, .ref (G.2.1 0)), (1, .int (iI (sh))), (2, .int (iI (a))), (3, .int (iI (b))), (4, .int (iI (t)))]) hC.1 hC.2.1 d_cr_earliest_85 hl (by decide) rfl (fun ls hl => ?_)
              refine lv_iload hC.1 hC.2.1 d_cr_earliest_87 (lv_at hl 0 rfl) ?_
              refine ir_if_gt (tgt := 95) hC.1 hC.2.1 d_cr_earliest_89 (by decide) ⟨by omega, by omega⟩ (fun c_14 => ?_) (fun c_14 => ?_)
              · skip
                refine lv_iload hC.1 hC.2.1 d_cr_earliest_95 (lv_at hl 1 rfl) ?_
                refine lv_iload hC.1 hC.2.1 d_cr_earliest_97 (lv_at hl 0 rfl) ?_
                refine ir_add hC.1 hC.2.1 d_cr_earliest_99 ?_
                refine lv_istore (lv' := [(6, .int (iI (x6 + (pWt (s_up T 19 0 x6) ((s_up T 19 0 x6) 20 0).toNat)))), (7, .int (iI (pWt (s_up T 19 0 x6) ((s_up T 19 0 x6) 20 0).toNat))), (5, .int (iI (min (t + 2880) 100000))), (0, .ref (G.2.1 0)), (1, .int (iI (sh))), (2, .int (iI (a))), (3, .int (iI (b))), (4, .int (iI (t)))]) hC.1 hC.2.1 d_cr_earliest_100 hl (by decide) rfl (fun ls hl => ?_)
                refine lv_goto (tgt := 63) hC.1 hC.2.1 d_cr_earliest_102 (by decide) ?_
                exact ih_63 (f - 1) _ _ (by omega)  (by omega) (Inv.up (q := 19) (i := 0) (x := x6) hv1 (by omega) (show _ ≤ 100000 by omega)) (by omega) (by rw [hv3, eaL_s _ f T x6 (by omega), if_pos (by assumption), if_neg (by omega)]) _ _ _ hw (lv_sub hl [0, 2, 3, 4, 5, 6, 7] rfl)
              · skip
                refine lv_iload hC.1 hC.2.1 d_cr_earliest_92 (lv_at hl 1 rfl) ?_
                have hk_15 : kEa S sh a b t = 0 := (by first | (simp [kEa, c_1, c_5, c_9, c_10, c_14]; done) | (simp [kEa, c_1, c_5, c_9, c_10, c_14]; omega) | (simp [kEa, c_1, c_5, c_9, c_10, c_14]; done) | (simp [kEa, c_1, c_5, c_9, c_10, c_14]; omega) | omega)
                exact rx_W hC hr hlk hw hk_15 (by rw [hv3, eaL_s _ f T x6 (by omega), if_pos (by assumption), if_pos (by omega)]) (by rw [if_pos hk_15, hv3, eaL_s _ f T x6 (by omega), if_pos (by assumption), if_pos (by omega)]) d_cr_earliest_94 (Nat.zero_le _) (Nat.zero_le _)
        exact loop_63 _ 2882 _ _ (Nat.lt_succ_self _)  (by omega) (pRt_I b hI (show 0 ≤ sh ∧ sh < 12 by omega) (show 0 ≤ a ∧ a ≤ 7 by omega) (hsp sh.toNat (by omega))) (by omega) (by unfold eaP; rw [if_neg (by assumption)]) _ _ _ hw (lv_sub hl [0, 1, 2, 3, 4, 5, 6] rfl)
      · skip
        refine lv_iconst (v := iI (-1)) hC.1 hC.2.1 d_cr_earliest_44 rfl ?_
        have hk_16 : kEa S sh a b t = 0 := (by first | (simp [kEa, c_1, c_5, c_9]; done) | (simp [kEa, c_1, c_5, c_9]; omega) | (simp [kEa, c_1, c_5, c_9]; done) | (simp [kEa, c_1, c_5, c_9]; omega) | omega)
        exact rx_W hC hr hlk hw hk_16 (by unfold eaP; rw [if_pos (by assumption)]) (by rw [if_pos hk_16]; unfold eaP; rw [if_pos (by assumption)]) d_cr_earliest_45 (Nat.zero_le _) (Nat.zero_le _)
    · skip
      have hk_17 : kEa S sh a b t = 1 := (by first | (simp [kEa, c_1, c_5]; done) | (simp [kEa, c_1, c_5]; omega) | (simp [kEa, c_1, c_5]; done) | (simp [kEa, c_1, c_5]; omega) | omega)
      exact th_S (X := "java/lang/IllegalArgumentException") (txt := "no such ship or points, or not such a time") hC (hl0 e hadm) hw hxw hlk hex hl.1 tw_256 tw_257 tw_9 (by decide) own_53 (by decide +kernel) d_cr_earliest_24 d_cr_earliest_27 d_cr_earliest_28 d_cr_earliest_30 d_cr_earliest_33 (Nat.le_of_ble_eq_true rfl) (Nat.le_of_ble_eq_true rfl) (Nat.le_of_ble_eq_true rfl) (Nat.le_of_ble_eq_true rfl) (by rw [hk_17]; decide) (by rw [hk_17]; decide +kernel) (by simp [hk_17])

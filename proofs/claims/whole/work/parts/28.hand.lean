/-! helpers of the law: a call under a handler -/
theorem zq_ref {C n d : String} {A : Nat → Prop} {U : State} (h : va_Zq C n d A U U.heap) : (Cond.isRef (.static C n d)).before #[] U = true := by
  rcases h with h | ⟨t, h⟩
  · obtain ⟨cf, kf, fi, f, a, cell, h1, h2, h3, h4, h5, h6, h7, h8⟩ := h
    simp [Cond.before, Cond.holds, Cond.value, Term.eval, State.fieldNamed?, h1, h2, h4, h5, h6, h7]
  · obtain ⟨cf, kf, fi, f, a, cell, h1, h2, h3, h4, h5, h6, h7, h8⟩ := h
    simp [Cond.before, Cond.holds, Cond.value, Term.eval, State.fieldNamed?, h1, h2, h4, h5, h6, h7]
theorem ls_keep {O f d : String} {s U : State} (hv : s.vm.Alike U.vm) (hh : ∀ a : Nat, a < s.heap.size → U.heap[a]? = s.heap[a]?) (h : (Cond.laysStatic O f d).before #[] s = true) : (Cond.laysStatic O f d).before #[] U = true := by
  have h1 := Cond.laysStatic_setVm hv h
  obtain ⟨c, k, i, fl, a, cell, hc, hi, hst, ha, hcell, hs, hcls, hlt, hty⟩ := Cond.laysStatic_spec h1
  have hcell' : U.heap[a]? = some cell := by
    have hx : s.heap[a]? = some cell := hcell
    rw [hh a (Array.getElem?_eq_some_iff.mp hx).1]
    exact hx
  exact Cond.laysStatic_of (s := U) (c := c) (k := k) (i := i) (f := fl) (a := a) (cell := cell) hc hi hst ha hcell' hs hcls hlt hty
/-- the statics and texts stay, where the tables are warmer and no old cell has changed -/
theorem exw_keep {Tx : List (Nat × String)} {s U : State} (hW : s.WarmedH U.vm) (hh : ∀ a : Nat, a < s.heap.size → U.heap[a]? = s.heap[a]?) (hi : (Cond.initialized "java/lang/Throwable").before #[] s = true) (h : exw Tx s) : exw Tx U := by
  refine ⟨?_, fun k hk => ?_⟩
  · have h0 := h.1
    intro w hw
    simp only [exl, List.mem_cons, List.not_mem_nil, or_false] at hw
    have a1 := h0 _ (show Cond.laysStatic "java/lang/Throwable" "UNASSIGNED_STACK" "[Ljava/lang/StackTraceElement;" ∈ exl by simp [exl])
    have a2 := h0 _ (show Cond.laysStatic "java/lang/Throwable" "SUPPRESSED_SENTINEL" "Ljava/util/List;" ∈ exl by simp [exl])
    have a3 := h0 _ (show Cond.isRef (.static "java/lang/Throwable" "UNASSIGNED_STACK" "[Ljava/lang/StackTraceElement;") ∈ exl by simp [exl])
    have a4 := h0 _ (show Cond.isRef (.static "java/lang/Throwable" "SUPPRESSED_SENTINEL" "Ljava/util/List;") ∈ exl by simp [exl])
    rcases hw with rfl | rfl | rfl | rfl
    · exact ls_keep hW.alike hh a1
    · exact ls_keep hW.alike hh a2
    · exact zq_ref ((va_Zqof (A := fun q => s.heap.size ≤ q) a1 hi a3 (fun a h1 h2 => by omega)).moved hW.alike |>.kept (fun a h1 _ => hh a h1))
    · exact zq_ref ((va_Zqof (A := fun q => s.heap.size ≤ q) a2 hi a4 (fun a h1 h2 => by omega)).moved hW.alike |>.kept (fun a h1 _ => hh a h1))
  · obtain ⟨q, hq⟩ := h.2 k hk
    exact ⟨q, hq.warm hW⟩
theorem exw_blind (As : List Value) (G : Gt) (S : St) (Tx : List (Nat × String)) (hi : Cond.initialized "java/lang/Throwable" ∈ tws) : FrameBlind (va_Pc As (fun U => wu G S U ∧ exw Tx U)) := by
  intro a U g mk h
  obtain ⟨h0, h1, h2⟩ := h
  exact ⟨h0, (wu_blind As G S a U g mk ⟨h0, h1⟩).2, exw_keep (s := U) (U := U.calling g mk a) (State.WarmedH.refl U) (fun _ _ => rfl) (h1.2.2.2 _ hi) h2⟩
/-- what may not be cast: an IllegalStateException is no IllegalArgumentException -/
def ncs (U : State) : Prop := ∀ c t, U.vm.findClass "java/lang/IllegalStateException" = some c → U.vm.findClass "java/lang/IllegalArgumentException" = some t → U.vm.assignable c t = false
theorem ncs_keep {s U : State} (hW : s.WarmedH U.vm) (h : ncs s) : ncs U := by
  intro c t h1 h2
  rw [hW.alike.findClass] at h1 h2
  rw [hW.alike.assignable]
  exact h c t h1 h2
theorem asg_self (vm : Vm) (c : ClassId) : vm.assignable c c = true := by
  show vm.assignableAux (255 + 1) c c = true
  rw [Vm.assignableAux]
  simp
section HX
variable {p : Program} {l : Launch} {e : Env} {R : Room} {s : State} {m : MethodId} {args : Array Value} {below : List Frame} {meth : Method} {c : Code} {H : Heap} {locs : List Loc} {cells slots : Nat} {Q : State → Prop}
variable {cc : ByteArray} {pc nL : Nat} {ls : Array Slot} {rest : List Value} {G : Gt} {S : St} {own : String}
/-- one entry of the table, its class warm or not: it is taken, or passed -/
theorem hd_one {T : State} (X : Stand p l e R s m args below meth c T locs cells slots) {X0 : String} {i : Nat} (hown : s.vm.findClass own = some m.cls) (hl : (Cond.classLink own i X0).before args s = true) :
    ∃ cX, s.vm.findClass X0 = some cX ∧ T.vm.ClassLinks e.platform m.cls i cX ∧ s.WarmedH (T.vm.noted m.cls i (.cls cX)) := by
  have hpl : e.platform.magicAccessors = ({} : Platform).magicAccessors := by rw [X.admits.platform]
  obtain ⟨cX, h1, h2⟩ := Cond.classLink_spec hown hl e.platform hpl
  obtain ⟨dk, _, _, _, hd, _, _, _, _, _, _, hres⟩ := h2.here
  exact ⟨cX, h1, X.warmed.classLinks h2, X.warmed.noted hd hres (State.rightAt_cls h2)⟩
theorem cat_in {vm' : Vm} {X0 : String} {cX : ClassId} (hW : s.WarmedH vm') (h : s.vm.findClass X0 = some cX) : ∃ k, vm'.classes[cX]? = some k :=
  Vm.classAt_of_findClass (name := X0) (by rw [hW.alike.findClass]; exact h)
theorem fds_1 {T : State} {g : JFrame} {a : Addr} {ce : Cell} {x : ExceptionTableEntry} {xs : List ExceptionTableEntry} {X0 : String} (X : Stand p l e R s m args below meth c T locs cells slots) (hg : g.method = m) (hown : s.vm.findClass own = some m.cls) (hl : (Cond.classLink own x.catchType X0).before args s = true) (hcov : covers x g.pc = true) (h0 : x.catchType ≠ 0) (htab : c.exceptionTable.toList = x :: xs)
    (hce : T.heap[a]? = some ce) (hcls : s.vm.findClass X0 = some ce.cls) (hvm : ce.vm = .none) : ∃ vm', s.WarmedH vm' ∧ fdsTo e ((T.setTop g).pushFrame (.throwing a)) g a (.found x.handlerPc) (((T.setTop g).pushFrame (.throwing a)).setVm vm') := by
  obtain ⟨cX, h1, h2, h3⟩ := hd_one X hown hl
  cases h1.symm.trans hcls
  have hv := Stand.throwing_vm T g a
  have hh := Stand.throwing_heap T g a
  refine ⟨T.vm.noted m.cls x.catchType (.cls ce.cls), h3, fun Q E d acts => ?_⟩
  rw [W.findHandler_eq (meth := meth) (code := c) (by rw [hv, hg]; exact X.method') X.code, htab]
  rw [hd_cold (c := ce.cls) (cell := ce) hcov h0 (by rw [hv, hg]; exact h2) (by rw [hh]; exact hce) (by rw [hvm]; intro k hk; cases hk) (by rw [hv, hg]; exact cat_in h3 hcls) (by rw [hv, hg]; exact cat_in h3 hcls) (by rw [hv, asg_self, asg_self]), if_pos (asg_self _ _), hv, hg]
theorem fds_2 {T : State} {g : JFrame} {a : Addr} {ce : Cell} {x y : ExceptionTableEntry} {xs : List ExceptionTableEntry} {X0 X1 : String} (X : Stand p l e R s m args below meth c T locs cells slots) (hg : g.method = m) (hown : s.vm.findClass own = some m.cls) (hl : (Cond.classLink own x.catchType X0).before args s = true) (hl1 : (Cond.classLink own y.catchType X1).before args s = true) (hcov : covers x g.pc = true) (hcov1 : covers y g.pc = true) (h0 : x.catchType ≠ 0) (h01 : y.catchType ≠ 0) (htab : c.exceptionTable.toList = x :: y :: xs)
    (hno : ∀ t, s.vm.findClass X0 = some t → s.vm.assignable ce.cls t = false) (hce : T.heap[a]? = some ce) (hcls : s.vm.findClass X1 = some ce.cls) (hvm : ce.vm = .none) : ∃ vm', s.WarmedH vm' ∧ fdsTo e ((T.setTop g).pushFrame (.throwing a)) g a (.found y.handlerPc) (((T.setTop g).pushFrame (.throwing a)).setVm vm') := by
  obtain ⟨cX, h1, h2, h3⟩ := hd_one X hown hl
  obtain ⟨cY, k1, k2, k3⟩ := hd_one (X.noted h3) hown hl1
  cases k1.symm.trans hcls
  have hv := Stand.throwing_vm T g a
  have hh := Stand.throwing_heap T g a
  have hna : T.vm.assignable ce.cls cX = false := by rw [X.warmed.alike.assignable]; exact hno cX h1
  refine ⟨_, k3, fun Q E d acts => ?_⟩
  rw [W.findHandler_eq (meth := meth) (code := c) (by rw [hv, hg]; exact X.method') X.code, htab]
  rw [hd_cold (c := cX) (cell := ce) hcov h0 (by rw [hv, hg]; exact h2) (by rw [hh]; exact hce) (by rw [hvm]; intro k hk; cases hk) (by rw [hv, hg]; exact cat_in h3 hcls) (by rw [hv, hg]; exact cat_in h3 h1) (by rw [hv, hg, h3.alike.assignable, X.warmed.alike.assignable]), if_neg (by rw [hv, hna]; decide)]
  rw [hd_cold (c := ce.cls) (cell := ce) hcov1 h01 (by show (Vm.noted _ _ _ _).ClassLinks _ _ _ _; rw [hv, hg]; exact k2) (by show ((T.setTop g).pushFrame (.throwing a)).heap[a]? = _; rw [hh]; exact hce) (by rw [hvm]; intro k hk; cases hk) (by show ∃ k, (Vm.noted (Vm.noted _ _ _ _) _ _ _).classes[ce.cls]? = some k; rw [hv, hg]; exact cat_in k3 hcls) (by show ∃ k, (Vm.noted (Vm.noted _ _ _ _) _ _ _).classes[ce.cls]? = some k; rw [hv, hg]; exact cat_in k3 hcls) (by rw [asg_self, asg_self]), if_pos (asg_self _ _)]
  show Q _ d acts ((((T.setTop g).pushFrame (.throwing a)).setVm _).setVm (Vm.noted (Vm.noted _ _ _ _) _ _ _)) ↔ _
  rw [hv, hg]
  exact Iff.rfl
end HX
section HY
variable {p : Program} {l : Launch} {e : Env} {R : Room} {s : State} {m : MethodId} {args : Array Value} {below : List Frame} {meth : Method} {c : Code} {Q : State → Prop}
variable {cc : ByteArray} {pc nL : Nat} {ls : Array Slot} {rest st0 As : List Value} {G : Gt} {S S' : St} {own : String} {k r : Int} {y : MethodName} {b : ByteArray} {maxL n index : Nat} {rm : Room}
/-- a call of a method that may throw, under the law's handlers -/
theorem hx_call {hpc : Int → Nat} (hC : CallFix p m c cc nL s args tws own) (hw : wh G S s s.heap []) (hxw : exw txs s) (hit : Cond.initialized "java/lang/Throwable" ∈ tws)
    (hM : MetX l y [.code y b maxL (some .int)] rm (va_Pc (.ref (G.2.1 0) :: As) (fun U => wu G S U ∧ exw txs U)) (qX G S' k r) 1 6 (gA G)) (cw : CallW R s args own "ChannelRules" index y b maxL (some .int) [.code y b maxL (some .int)] rm 1 6 n)
    (hn : As.length = n) (hsize : ls.size = nL) (hstack : st0 = As.reverse ++ .ref (G.2.1 0) :: rest) (hroom : (rest.map fun v => v.category).sum ≤ 8) (hdg : decode cc pc = .ok (.invokevirtual index, 3)) (hf : 1 ≤ R.cells ∧ 6 ≤ R.slots)
    (hfind : ¬ k = 0 → ∀ (T : State) (locs : List Loc) (a : Addr) (ce : Cell), Stand p l e R s m args below meth c T locs 1 6 → T.heap[a]? = some ce → s.vm.findClass (exn k) = some ce.cls → ce.vm = .none → ∃ vm', s.WarmedH vm' ∧ fdsTo e ((T.setTop (F0 m pc ls rest)).pushFrame (.throwing a)) (F0 m pc ls rest) a (.found (hpc k)) (((T.setTop (F0 m pc ls rest)).pushFrame (.throwing a)).setVm vm'))
    (k0 : k = 0 → ∀ (H : Heap) (locs : List Loc), wh G S' s H locs → W p l e R s m args below meth c H locs 1 6 Q (F0 m (pc + 3) ls (.int (iI r) :: rest)))
    (k1 : ¬ k = 0 → ∀ (H : Heap) (locs : List Loc) (x : Addr), wh G S' s H locs → W p l e R s m args below meth c H locs 1 6 Q (F0 m (hpc k) ls [.ref x])) : W p l e R s m args below meth c s.heap [] 0 0 Q (F0 m pc ls st0) := by
  obtain ⟨⟨hrc, hrs, hfr, hlo, hws, hcm, hcode, hini, hy, hlen, hlk⟩, hin, hse⟩ := cw
  obtain ⟨cellB, hcB, hoB, hclB⟩ := va_recv hw.1 hw.2.1 (show cls_all[3]? = some ("ChannelRules", _, _) from rfl) (by rw [wd_at G S (by decide : (0 : Nat) < 45)]; rfl)
  intro T hT X
  have hts := hC.2.2.2.2
  obtain ⟨o, s0, t, T', L, h0, hW0, Y, hL, e1, ⟨q0, q1, hP, hF⟩, st1, st2⟩ := call_X X hC.1 hC.2.2.2.1 hlk hin hse hcode (fun a' U hW => word_at hW (Or.inl (by first | rfl | simp [Cond.onTables, Cond.keeps, Cond.steady])) hini) hy hM (exw_blind _ G S txs hit) hrc hrs hfr hlo (fun a' U hW => hws _ hcm a' U hW) (b := G.2.1 0) (cellB := cellB) (by rw [hT]; exact hcB) hoB hclB (g := F0 m pc ls st0) rfl (hsize.trans hC.2.2.1.symm) (argsL := As) (rest := rest) (fun sig h => hn.trans (hlen sig h)) hstack (lv_room hroom) (by rw [hC.2.1]; exact hdg) ⟨by omega, by omega⟩
    (fun vm₁ hW₁ => ⟨rfl, wu_of hw hts hT hW₁, exw_keep hW₁ (fun a _ => by show T.heap[a]? = _; rw [hT]) (hts _ hit) hxw⟩)
  have hwh : wh G S' s T'.heap ([] ++ L) := by
    rw [hT] at h0
    obtain ⟨hz, hk⟩ := hF
    rw [h0] at hz hk
    exact ⟨hw.1, by rw [e1]; exact hP, wd_D S' hw.2.2.1, by rw [e1]; exact hz, fun q h1 h2 => by rw [e1, hk q h1 h2], fun q hq => hL q (by simpa using hq)⟩
  by_cases hk : k = 0
  · have ho := q0 hk
    obtain ⟨t2, a1, b1⟩ := k0 hk T'.heap ([] ++ L) hwh T' rfl (by simpa using Y)
    exact ⟨t2, st1 _ ho t2 a1, b1⟩
  · obtain ⟨a, ce, ho, hce, hfc, hvm⟩ := q1 hk
    rw [hW0.alike.findClass] at hfc
    have hce' : T'.heap[a]? = some ce := by rw [e1]; exact hce
    obtain ⟨vm', hW', hfd⟩ := hfind hk T' ([] ++ L) a ce (by simpa using Y) hce' hfc hvm
    have Y' : Stand p l e R s m args below meth c (T'.setVm vm') ([] ++ L) 1 6 := by simpa using Y.noted hW'
    obtain ⟨t2, a1, b1⟩ := k1 hk T'.heap ([] ++ L) a hwh (T'.setVm vm') rfl Y'
    refine ⟨t2, st2 a ho t2 ?_, b1⟩
    have hat : At T' (F0 m pc ls rest).method c below := Y.here
    exact hd_caught hat hfd a1
end HY

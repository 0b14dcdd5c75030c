/-! helpers of the law: a call under a handler -/
theorem zq_ref {C n d : String} {A : Nat → Prop} {U : State} (h : va_Zq C n d A U U.heap) : (Cond.isRef (.static C n d)).before #[] U = true := by
  rcases h with h | ⟨t, h⟩
  · obtain ⟨cf, kf, fi, f, a, cell, h1, h2, h3, h4, h5, h6, h7, h8⟩ := h
    simp [Cond.before, Cond.holds, Cond.value, Term.eval, State.fieldNamed?, h1, h2, h4, h5, h6, h7]
  · obtain ⟨cf, kf, fi, f, a, cell, h1, h2, h3, h4, h5, h6, h7, h8⟩ := h
    simp [Cond.before, Cond.holds, Cond.value, Term.eval, State.fieldNamed?, h1, h2, h4, h5, h6, h7]
theorem ls_keep {O f d : String} {s U : State} (hv : s.vm.Alike U.vm) (hh : ∀ a : Nat, a < s.heap.size → U.heap[a]? = s.heap[a]?) (h : (Cond.laysStatic O f d).before #[] s = true) : (Cond.laysStatic O f d).before #[] U = true := by
  have h1 := Cond.laysStatic_setVm hv h
  obtain ⟨c, k, i, fl, a, cell, hc, hi, hst, ha, hcell, hs, hcls, hlt, hty⟩ := Cond.laysStatic_spec h1
  have hcell' : U.heap[a]? = some cell := by
    have hx : s.heap[a]? = some cell := hcell
    rw [hh a (Array.getElem?_eq_some_iff.mp hx).1]
    exact hx
  exact Cond.laysStatic_of (s := U) (c := c) (k := k) (i := i) (f := fl) (a := a) (cell := cell) hc hi hst ha hcell' hs hcls hlt hty
/-- the statics and texts stay, where the tables are warmer and no old cell has changed -/
theorem exw_keep {Tx : List (Nat × String)} {s U : State} (hW : s.WarmedH U.vm) (hh : ∀ a : Nat, a < s.heap.size → U.heap[a]? = s.heap[a]?) (hi : (Cond.initialized "java/lang/Throwable").before #[] s = true) (h : exw Tx s) : exw Tx U := by
  refine ⟨?_, fun k hk => ?_⟩
  · have h0 := h.1
    intro w hw
    simp only [exl, List.mem_cons, List.not_mem_nil, or_false] at hw
    have a1 := h0 _ (show Cond.laysStatic "java/lang/Throwable" "UNASSIGNED_STACK" "[Ljava/lang/StackTraceElement;" ∈ exl by simp [exl])
    have a2 := h0 _ (show Cond.laysStatic "java/lang/Throwable" "SUPPRESSED_SENTINEL" "Ljava/util/List;" ∈ exl by simp [exl])
    have a3 := h0 _ (show Cond.isRef (.static "java/lang/Throwable" "UNASSIGNED_STACK" "[Ljava/lang/StackTraceElement;") ∈ exl by simp [exl])
    have a4 := h0 _ (show Cond.isRef (.static "java/lang/Throwable" "SUPPRESSED_SENTINEL" "Ljava/util/List;") ∈ exl by simp [exl])
    rcases hw with rfl | rfl | rfl | rfl
    · exact ls_keep hW.alike hh a1
    · exact ls_keep hW.alike hh a2
    · exact zq_ref ((va_Zqof (A := fun q => s.heap.size ≤ q) a1 hi a3 (fun a h1 h2 => by omega)).moved hW.alike |>.kept (fun a h1 _ => hh a h1))
    · exact zq_ref ((va_Zqof (A := fun q => s.heap.size ≤ q) a2 hi a4 (fun a h1 h2 => by omega)).moved hW.alike |>.kept (fun a h1 _ => hh a h1))
  · obtain ⟨q, hq⟩ := h.2 k hk
    exact ⟨q, hq.warm hW⟩
theorem exw_blind (As : List Value) (G : Gt) (S : St) (Tx : List (Nat × String)) (hi : Cond.initialized "java/lang/Throwable" ∈ tws) : FrameBlind (va_Pc As (fun U => wu G S U ∧ exw Tx U)) := by
  intro a U g mk h
  obtain ⟨h0, h1, h2⟩ := h
  exact ⟨h0, (wu_blind As G S a U g mk ⟨h0, h1⟩).2, exw_keep (s := U) (U := U.calling g mk a) (State.WarmedH.refl U) (fun _ _ => rfl) (h1.2.2.2 _ hi) h2⟩
/-- what may not be cast: an IllegalStateException is no IllegalArgumentException -/
def ncs (U : State) : Prop := ∀ c t, U.vm.findClass "java/lang/IllegalStateException" = some c → U.vm.findClass "java/lang/IllegalArgumentException" = some t → U.vm.assignable c t = false
theorem ncs_keep {s U : State} (hW : s.WarmedH U.vm) (h : ncs s) : ncs U := by
  intro c t h1 h2
  rw [hW.alike.findClass] at h1 h2
  rw [hW.alike.assignable]
  exact h c t h1 h2
theorem asg_self (vm : Vm) (c : ClassId) : vm.assignable c c = true := by
  show vm.assignableAux (255 + 1) c c = true
  rw [Vm.assignableAux]
  simp
section HX
variable {p : Program} {l : Launch} {e : Env} {R : Room} {s : State} {m : MethodId} {args : Array Value} {below : List Frame} {meth : Method} {c : Code} {H : Heap} {locs : List Loc} {cells slots : Nat} {Q : State → Prop}
variable {cc : ByteArray} {pc nL : Nat} {ls : Array Slot} {rest : List Value} {G : Gt} {S : St} {own : String}
/-- one entry of the table, its class warm or not: it is taken, or passed -/
theorem hd_one {T : State} (X : Stand p l e R s m args below meth c T locs cells slots) {X0 : String} {i : Nat} (hown : s.vm.findClass own = some m.cls) (hl : (Cond.classLink own i X0).before args s = true) :
    ∃ cX, s.vm.findClass X0 = some cX ∧ T.vm.ClassLinks e.platform m.cls i cX ∧ s.WarmedH (T.vm.noted m.cls i (.cls cX)) := by
  have hpl : e.platform.magicAccessors = ({} : Platform).magicAccessors := by rw [X.admits.platform]
  obtain ⟨cX, h1, h2⟩ := Cond.classLink_spec hown hl e.platform hpl
  obtain ⟨dk, _, _, _, hd, _, _, _, _, _, _, hres⟩ := h2.here
  exact ⟨cX, h1, X.warmed.classLinks h2, X.warmed.noted hd hres (State.rightAt_cls h2)⟩
theorem cat_in {vm' : Vm} {X0 : String} {cX : ClassId} (hW : s.WarmedH vm') (h : s.vm.findClass X0 = some cX) : ∃ k, vm'.classes[cX]? = some k :=
  Vm.classAt_of_findClass (name := X0) (by rw [hW.alike.findClass]; exact h)
theorem fds_1 {T : State} {g : JFrame} {a : Addr} {ce : Cell} {x : ExceptionTableEntry} {xs : List ExceptionTableEntry} {X0 : String} (X : Stand p l e R s m args below meth c T locs cells slots) (hg : g.method = m) (hown : s.vm.findClass own = some m.cls) (hl : (Cond.classLink own x.catchType X0).before args s = true) (hcov : covers x g.pc = true) (h0 : x.catchType ≠ 0) (htab : c.exceptionTable.toList = x :: xs)
    (hce : T.heap[a]? = some ce) (hcls : s.vm.findClass X0 = some ce.cls) (hvm : ce.vm = .none) : ∃ vm', s.WarmedH vm' ∧ fdsTo e ((T.setTop g).pushFrame (.throwing a)) g a (.found x.handlerPc) (((T.setTop g).pushFrame (.throwing a)).setVm vm') := by
  obtain ⟨cX, h1, h2, h3⟩ := hd_one X hown hl
  cases h1.symm.trans hcls
  have hv := Stand.throwing_vm T g a
  have hh := Stand.throwing_heap T g a
  refine ⟨T.vm.noted m.cls x.catchType (.cls ce.cls), h3, fun Q E d acts => ?_⟩
  rw [W.findHandler_eq (meth := meth) (code := c) (by rw [hv, hg]; exact X.method') X.code, htab]
  rw [hd_cold (c := ce.cls) (cell := ce) hcov h0 (by rw [hv, hg]; exact h2) (by rw [hh]; exact hce) (by rw [hvm]; intro k hk; cases hk) (by rw [hv, hg]; exact cat_in h3 hcls) (by rw [hv, hg]; exact cat_in h3 hcls) (by rw [hv, asg_self, asg_self]), if_pos (asg_self _ _), hv, hg]
theorem fds_2 {T : State} {g : JFrame} {a : Addr} {ce : Cell} {x y : ExceptionTableEntry} {xs : List ExceptionTableEntry} {X0 X1 : String} (X : Stand p l e R s m args below meth c T locs cells slots) (hg : g.method = m) (hown : s.vm.findClass own = some m.cls) (hl : (Cond.classLink own x.catchType X0).before args s = true) (hl1 : (Cond.classLink own y.catchType X1).before args s = true) (hcov : covers x g.pc = true) (hcov1 : covers y g.pc = true) (h0 : x.catchType ≠ 0) (h01 : y.catchType ≠ 0) (htab : c.exceptionTable.toList = x :: y :: xs)
    (hno : ∀ t, s.vm.findClass X0 = some t → s.vm.assignable ce.cls t = false) (hce : T.heap[a]? = some ce) (hcls : s.vm.findClass X1 = some ce.cls) (hvm : ce.vm = .none) : ∃ vm', s.WarmedH vm' ∧ fdsTo e ((T.setTop g).pushFrame (.throwing a)) g a (.found y.handlerPc) (((T.setTop g).pushFrame (.throwing a)).setVm vm') := by
  obtain ⟨cX, h1, h2, h3⟩ := hd_one X hown hl
  obtain ⟨cY, k1, k2, k3⟩ := hd_one (X.noted h3) hown hl1
  cases k1.symm.trans hcls
  have hv := Stand.throwing_vm T g a
  have hh := Stand.throwing_heap T g a
  have hna : T.vm.assignable ce.cls cX = false := by rw [X.warmed.alike.assignable]; exact hno cX h1
  refine ⟨_, k3, fun Q E d acts => ?_⟩
  rw [W.findHandler_eq (meth := meth) (code := c) (by rw [hv, hg]; exact X.method') X.code, htab]
  rw [hd_cold (c := cX) (cell := ce) hcov h0 (by rw [hv, hg]; exact h2) (by rw [hh]; exact hce) (by rw [hvm]; intro k hk; cases hk) (by rw [hv, hg]; exact cat_in h3 hcls) (by rw [hv, hg]; exact cat_in h3 h1) (by rw [hv, hg, h3.alike.assignable, X.warmed.alike.assignable]), if_neg (by rw [hv, hna]; decide)]
  rw [hd_cold (c := ce.cls) (cell := ce) hcov1 h01 (by show (Vm.noted _ _ _ _).ClassLinks _ _ _ _; rw [hv, hg]; exact k2) (by show ((T.setTop g).pushFrame (.throwing a)).heap[a]? = _; rw [hh]; exact hce) (by rw [hvm]; intro k hk; cases hk) (by show ∃ k, (Vm.noted (Vm.noted _ _ _ _) _ _ _).classes[ce.cls]? = some k; rw [hv, hg]; exact cat_in k3 hcls) (by show ∃ k, (Vm.noted (Vm.noted _ _ _ _) _ _ _).classes[ce.cls]? = some k; rw [hv, hg]; exact cat_in k3 hcls) (by rw [asg_self, asg_self]), if_pos (asg_self _ _)]
  show Q _ d acts ((((T.setTop g).pushFrame (.throwing a)).setVm _).setVm (Vm.noted (Vm.noted _ _ _ _) _ _ _)) ↔ _
  rw [hv, hg]
  exact Iff.rfl
end HX

/-! METHODS THAT MAY THROW: their contracts, the throwing end, calls of them under a handler -/
def FrameX (s t : State) (L : List Loc) (k n : Nat) : Prop := s.WarmedH t.vm ∧ s.sameButNew ({ t with vm := s.vm } : State) L k n
def MetX (l : Launch) (y : MethodName) (ws : List Cond) (rm : Room) (Pc : Array Value → State → Prop) (Qc : Array Value → State → Outcome → State → Prop) (mc ms : Nat) (free : Addr → Prop) : Prop :=
  MetFree l y (headSpec ws rm) Pc (fun _ _ _ _ _ => True) (fun a st o t => Qc a st o t ∧ ∃ L, FrameX st t L mc ms ∧ ∀ q ∈ L, free q.base)
def MX (below : List Frame) (Qc : Array Value → State → Outcome → State → Prop) (a : Array Value) (s : State) (mc ms : Nat) (free : Addr → Prop) : State → Prop := fun t =>
  ∃ o, t.status = .running ∧ Ended t below o ∧ Qc a s o t ∧ ∃ L, FrameX s t L mc ms ∧ ∀ q ∈ L, free q.base
theorem MX.of_MQ {below : List Frame} {Qc : Array Value → State → Outcome → State → Prop} {a : Array Value} {s t : State} {mc ms : Nat} {free : Addr → Prop} (h : MQ below Qc a s mc ms free t) : MX below Qc a s mc ms free t := by
  obtain ⟨o, h1, h2, h3, L, h4, h5⟩ := h
  exact ⟨o, h1, h2, h3, L, ⟨h4.2.1, h4.2.2⟩, h5⟩
/-- the words that speak of statics, and the texts of the messages -/
def exl : List Cond := [.laysStatic "java/lang/Throwable" "UNASSIGNED_STACK" "[Ljava/lang/StackTraceElement;", .laysStatic "java/lang/Throwable" "SUPPRESSED_SENTINEL" "Ljava/util/List;", .isRef (.static "java/lang/Throwable" "UNASSIGNED_STACK" "[Ljava/lang/StackTraceElement;"), .isRef (.static "java/lang/Throwable" "SUPPRESSED_SENTINEL" "Ljava/util/List;")]
def exw (T : List (Nat × String)) (U : State) : Prop := (∀ w ∈ exl, w.before #[] U = true) ∧ ∀ k ∈ T, ∃ q, vk_R "ChannelRules" k.1 k.2 q U
def exn (k : Int) : String := if k = 1 then "java/lang/IllegalArgumentException" else if k = 2 then "java/lang/IllegalStateException" else "java/lang/IndexOutOfBoundsException"
/-- a throw: the object's class -/
def tX (X : String) (st : State) (oc : Outcome) (t : State) : Prop := ∃ (a : Addr) (ce : Cell), oc = .threw a ∧ t.heap[a]? = some ce ∧ st.vm.findClass X = some ce.cls ∧ ce.vm = .none
/-- the end of a method that may throw: k is 0, or says what is thrown -/
def qX (G : Gt) (S : St) (k r : Int) : Array Value → State → Outcome → State → Prop := fun _ st oc t =>
  (k = 0 → oc = .returned (some (.int (iI r)))) ∧ (¬ k = 0 → tX (exn k) st oc t) ∧ va_P G.1 cls_all (wld G S) t.heap ∧ va_F (gA G) st t
theorem mtx_of {l : Launch} {y : MethodName} {b : ByteArray} {n : Nat} {ret : Option FieldType} {rm : Room} {As : List Value} {G : Gt} {S : St} {Tx : List (Nat × String)} {Qc : Array Value → State → Outcome → State → Prop} {mc ms : Nat} {free : Addr → Prop} (hy : plainName y.cls = true) (hn : (lg_sl As).length ≤ n)
    (body : ∀ (p : Program) (e : Env) (s : State) (m : MethodId) (below : List Frame) (meth : Method) (c : Code) (ls : Array Slot), l.admits e → CallFix p m c b n s As.toArray tws y.cls → meth.sig.returnType = ret → meth.locks = false → c.exceptionTable.isEmpty = true → wh G S s s.heap [] → exw Tx s → lv_has ls n (lv_args 0 As) → W p l e rm s m As.toArray below meth c s.heap [] 0 0 (MX below Qc As.toArray s mc ms free) (F0 m 0 ls [])) :
    MetX l y [.code y b n ret] rm (va_Pc As (fun U => wu G S U ∧ exw Tx U)) Qc mc ms free := by
  refine MetFree.of_bodyS (code := b) (maxLocals := n) (ret := ret) hy ?_ ?_
  · intro args s m h hn
    obtain ⟨meth, c, h1, h2, h3, h4, h5, h6, -, -⟩ := Cond.code_spec hn (atoms_spec (ws := [.code y b n ret]) h _ List.mem_cons_self)
    exact ⟨meth, c, h1, h2, h3, h4, h5, h6⟩
  · intro p e s m args below meth c s₁ B hml hv _
    obtain ⟨rfl, ⟨hK, hP, hD, ht⟩, hxw⟩ := hv
    have hh0 : s₁.heap = s.heap := by rw [B.state]; rfl
    have hts : ∀ w ∈ tws, w.before As.toArray s = true := tw_same (s := s) (U := s) rfl ht
    have hl := lv_entry As (n := n) hn
    have hcode := atoms_spec (ws := [.code y b n ret]) B.pre _ List.mem_cons_self
    have K := body p e s m below meth c _ (Stand.of_body B).admits ⟨B.exec, B.bytes, hml, findClass_of_methodNamed B.named, hts⟩ B.returns B.notSynchronized (BodyLoose.noHandlers B hcode) ⟨hK, hP, hD, va_S.rf⟩ hxw hl
    rw [← lg_entry_eq] at K
    obtain ⟨t, a1, o, b1, b2, b3⟩ := K s₁ hh0 (Stand.of_body B)
    exact ⟨t, o, a1, b1, b2, b3⟩
section TH
variable {p : Program} {l : Launch} {e : Env} {R : Room} {s : State} {m : MethodId} {args : Array Value} {below : List Frame} {meth : Method} {c : Code} {H : Heap} {locs : List Loc} {cells slots : Nat} {Q Q' : State → Prop}
variable {cc : ByteArray} {pc nL : Nat} {ls : Array Slot} {rest : List Value} {G : Gt} {S : St} {own : String} {Tx : List (Nat × String)}
theorem W.imp {g : JFrame} (h : ∀ t, Q t → Q' t) (k : W p l e R s m args below meth c H locs cells slots Q g) : W p l e R s m args below meth c H locs cells slots Q' g := by
  intro T hT X
  obtain ⟨t, a, b⟩ := k T hT X
  exact ⟨t, a, h t b⟩
theorem wx_ret {Qc : Array Value → State → Outcome → State → Prop} {free : Addr → Prop} {mc ms : Nat} {g : JFrame} (h1 : cells ≤ mc) (h2 : slots ≤ ms) (k : W p l e R s m args below meth c H locs mc ms (MQ below Qc args s mc ms free) g) : W p l e R s m args below meth c H locs cells slots (MX below Qc args s mc ms free) g :=
  W.widen h1 h2 (W.imp (fun _ h => MX.of_MQ h) k)
theorem rx_W {v r k : Int} {S' : St} (hC : CallFix p m c cc nL s args tws own) (hr : meth.sig.returnType = some .int) (hlk : meth.locks = false) (hw : wh G S s H locs) (hk : k = 0) (hv : v = r) (hS : S = S') (hdg : decode cc pc = .ok (.ireturn, 1)) (h1 : cells ≤ 1) (h2 : slots ≤ 6) : W p l e R s m args below meth c H locs cells slots (MX below (qX G S' k r) args s 1 6 (gA G)) (F0 m pc ls [.int (iI v)]) := by
  subst hv
  subst hS
  subst hk
  exact wx_ret h1 h2 (W.iret hC.1 hC.2.1 hr (fun t ht _ => ⟨fun _ => rfl, fun h => absurd rfl h, by rw [ht]; exact hw.2.1, hw.2.2.2.F ht⟩) (fun q h => hw.2.2.2.2.2 q h) hdg hlk)
set_option maxHeartbeats 4000000 in
theorem th_S {X txt : String} {i1 i2 i3 : Nat} {k r : Int} {S' : St} (hC : CallFix p m c cc nL s args tws "ChannelRules") (htr : e.platform.stackTraces = false) (hw : wh G S s s.heap []) (hxw : exw Tx s) (hlk : meth.locks = false) (hex : c.exceptionTable.isEmpty = true) (hsz : ls.size = nL)
    (h1 : Cond.classLink "ChannelRules" i1 X ∈ tws) (h2 : Cond.instantiable X 6 ∈ tws) (h3 : Cond.initialized X ∈ tws) (h4 : (i2, txt) ∈ Tx)
    (h5 : (Jvm.Bundle.ownAtoms "ChannelRules" i3 X ["java/lang/RuntimeException", "java/lang/Exception"]).all (fun w => (decide (w ∈ lw_tbl) && twk w) || decide (w ∈ exl)) = true) (h6 : Jvm.Bundle.fit X = true)
    (hd0 : decode cc pc = .ok (.new i1, 3)) (hd1 : decode cc (pc + 3) = .ok (.dup, 1)) (hd2 : decode cc (pc + 4) = .ok (.ldc i2, 2)) (hd3 : decode cc (pc + 6) = .ok (.invokespecial i3, 3)) (hd4 : decode cc (pc + 9) = .ok (.athrow, 1))
    (hRc : 1 ≤ R.cells) (hRs : 6 ≤ R.slots) (hRf : 5 < R.frames) (hRl : 82 ≤ R.locals) (hk : ¬ k = 0) (hX : exn k = X) (hS : S = S') :
    W p l e R s m args below meth c s.heap [] 0 0 (MX below (qX G S' k r) args s 1 6 (gA G)) (F0 m pc ls []) := by
  subst hS
  have hts := hC.2.2.2.2
  refine W.newc hC.1 hC.2.1 hC.2.2.2.1 (hts _ h1) (hts _ h2) (hts _ h3) rfl hd0 (by omega) (by omega) (fun cX kX f1 f2 f3 f4 => ?_)
  refine W.eq (g2 := F0 m (pc + 3) ls [.ref s.heap.size]) rfl ?_
  refine lv_dup hC.1 hC.2.1 hd1 rfl ?_
  obtain ⟨q, hq⟩ := hxw.2 _ h4
  refine va_ldcS hC.1 hC.2.1 hC.2.2.2.1 hq hd2 ?_
  intro T hT X0
  have hat : ∀ w ∈ Jvm.Bundle.ownAtoms "ChannelRules" i3 X ["java/lang/RuntimeException", "java/lang/Exception"], w.before args s = true := by
    intro w hwm
    have := List.all_eq_true.mp h5 w hwm
    rw [Bool.or_eq_true] at this
    rcases this with h | h
    · rw [Bool.and_eq_true] at h
      exact hts w (List.mem_filter.mpr ⟨of_decide_eq_true h.1, h.2⟩)
    · have hm := of_decide_eq_true h
      have hb := hxw.1 w hm
      simp only [exl, List.mem_cons, List.not_mem_nil, or_false] at hm
      rcases hm with rfl | rfl | rfl | rfl <;> exact hb
  have hcell : T.heap[s.heap.size]? = some (freshCell cX kX) := by rw [hT]; simp [freshCell]
  have hout : ∀ x ∈ c.exceptionTable.toList, covers x (pc + 4 + 2 + 3) = false := by
    have h0 : c.exceptionTable.size = 0 := by simpa [Array.isEmpty] using hex
    have h9 : c.exceptionTable.toList = [] := List.eq_nil_of_length_eq_zero (by simpa using h0)
    intro x hx
    rw [h9] at hx
    cases hx
  obtain ⟨U, st, hrun, hend, hWU, hsame, ce, hce, hoc⟩ := X0.ctorThrowS hC.1 htr (own := "ChannelRules") (cls := X) (names := ["java/lang/RuntimeException", "java/lang/Exception"]) (ic := i3) hC.2.2.2.1 h6 (by decide +kernel) hat (fun x hx => by cases hx) f1 f2 hcell (Nat.le_refl _) (msg := .ref q) rfl (g := F0 m (pc + 4 + 2) ls [.ref q, .ref s.heap.size, .ref s.heap.size]) rfl (by rw [hC.2.2.1]; exact hsz) rfl rfl (rest := []) rfl (by rw [hC.2.1]; exact hd3) (by rw [hC.2.1]; exact hd4) hout (by show 2 + 3 < R.frames; omega) (by show 2 * 0 + 1 + (13 * 3 + 42) ≤ R.locals; omega) hlk
  have hold : ∀ q : Nat, q < s.heap.size → U.heap[q]? = s.heap[q]? := by
    intro q hq
    obtain ⟨cl, hcl⟩ : ∃ cl, s.heap[q]? = some cl := ⟨_, Array.getElem?_eq_getElem hq⟩
    rw [hcl]
    exact State.sameButNew.old_cell hsame hcl
  refine ⟨U, st, .threw s.heap.size, hrun, hend, ⟨fun z => absurd z hk, fun _ => ⟨_, ce, rfl, hce, ?_, hoc.vm⟩, ?_, ?_⟩, [], ⟨hWU, hsame⟩, fun q hq => by cases hq⟩
  · rw [hX]
    exact hoc.cls
  · exact hw.2.1.kept (fun j x hx => hold x.1 (hw.2.1 j x hx).lt)
  · exact ⟨hsame.2.1, fun q hq _ => hold q hq⟩
end TH

/-! CONTRACTS in the words of the world: entry, ends, calls -/
theorem wd_D {A : Nat → Prop} {G : Gt} {S : St} (S' : St) (h : va_D A (wld G S)) : va_D A (wld G S') := by
  have key : ∀ (S1 S2 : St) (k : Nat) (q : Nat × va_E), (wld G S1)[k]? = some q → ∃ q', (wld G S2)[k]? = some q' ∧ q'.1 = q.1 := by
    intro S1 S2 k q hq
    have hk : k < 45 := by
      have := (List.getElem?_eq_some_iff.mp hq).1
      simp [wld] at this
      exact this
    rw [wd_at G S1 hk] at hq
    exact ⟨_, wd_at G S2 hk, by rw [← Option.some.inj hq]⟩
  refine ⟨fun i j p q hi hj hpq => ?_, fun k q hk => ?_⟩
  · obtain ⟨p', h1, e1⟩ := key S' S i p hi
    obtain ⟨q', h2, e2⟩ := key S' S j q hj
    exact h.1 i j p' q' h1 h2 (by rw [e1, e2]; exact hpq)
  · obtain ⟨q', h1, e1⟩ := key S' S k q hk
    rw [← e1]
    exact h.2 k q' h1
theorem wu_blind (As : List Value) (G : Gt) (S : St) : FrameBlind (va_Pc As (fun U => wu G S U)) := by
  intro a U g mk h
  obtain ⟨h0, h1, h2, h3, h4⟩ := h
  exact ⟨h0, va_K.moved (u := U) (U := U.calling g mk a) (Vm.Alike.refl U.vm) h1, h2, h3, tw_same (s := U) (U := U.calling g mk a) rfl h4⟩
theorem wu_of {G : Gt} {S : St} {s U : State} {H : Heap} {locs : List Loc} {args : Array Value} (hw : wh G S s H locs) (hts : ∀ w ∈ tws, w.before args s = true) (hU : U.heap = H) (hW : s.WarmedH U.vm) : wu G S U :=
  ⟨va_K.moved hW.alike hw.1, by rw [hU]; exact hw.2.1, hw.2.2.1, tw_warm hW hts⟩
/-- a method that only reads: its answer -/
abbrev qR (r : Int) : Array Value → State → Outcome → State → Prop := fun _ st oc t => oc = .returned (some (.int (iI r))) ∧ t.heap = st.heap
/-- a method that writes: its answer, the new state -/
abbrev qW (G : Gt) (S : St) (r : Int) : Array Value → State → Outcome → State → Prop := fun _ st oc t => oc = .returned (some (.int (iI r))) ∧ va_P G.1 cls_all (wld G S) t.heap ∧ va_F (gA G) st t
/-- ... without an answer -/
abbrev qV (G : Gt) (S : St) : Array Value → State → Outcome → State → Prop := fun _ st oc t => oc = .returned none ∧ va_P G.1 cls_all (wld G S) t.heap ∧ va_F (gA G) st t
theorem mt_of {l : Launch} {y : MethodName} {b : ByteArray} {n : Nat} {ret : Option FieldType} {rm : Room} {As : List Value} {G : Gt} {S : St} {Qc : Array Value → State → Outcome → State → Prop} {mc ms : Nat} {free : Addr → Prop} (hy : plainName y.cls = true) (hn : (lg_sl As).length ≤ n)
    (body : ∀ (p : Program) (e : Env) (s : State) (m : MethodId) (below : List Frame) (meth : Method) (c : Code) (ls : Array Slot), l.admits e → CallFix p m c b n s As.toArray tws y.cls → meth.sig.returnType = ret → meth.locks = false → c.exceptionTable.isEmpty = true → wh G S s s.heap [] → lv_has ls n (lv_args 0 As) → W p l e rm s m As.toArray below meth c s.heap [] 0 0 (MQ below Qc As.toArray s mc ms free) (F0 m 0 ls [])) :
    Met l y [.code y b n ret] rm (va_Pc As (fun U => wu G S U)) Qc mc ms free := by
  refine Met.ofW (cc := b) (maxL := n) (ret := ret) hy rfl ?_
  intro p e s m args below meth c s₁ B hml hv
  obtain ⟨rfl, hK, hP, hD, ht⟩ := hv
  rw [lg_entry_eq]
  have hts : ∀ w ∈ tws, w.before As.toArray s = true := tw_same (s := s) (U := s) rfl ht
  have hl := lv_entry As (n := n) hn
  have hcode := atoms_spec (ws := [.code y b n ret]) B.pre _ List.mem_cons_self
  exact body p e s m below meth c _ (Stand.of_body B).admits ⟨B.exec, B.bytes, hml, findClass_of_methodNamed B.named, hts⟩ B.returns B.notSynchronized (BodyLoose.noHandlers B hcode) ⟨hK, hP, hD, va_S.rf⟩ hl
section CL
variable {p : Program} {l : Launch} {e : Env} {R : Room} {s : State} {m : MethodId} {args : Array Value} {below : List Frame} {meth : Method} {c : Code} {H : Heap} {locs : List Loc} {cells slots : Nat} {Q : State → Prop}
variable {cc : ByteArray} {pc nL : Nat} {ls : Array Slot} {rest : List Value} {G : Gt} {S : St} {own : String}
theorem rt_R {v r : Int} (hC : CallFix p m c cc nL s args tws own) (hr : meth.sig.returnType = some .int) (hlk : meth.locks = false) (hv : v = r) (hdg : decode cc pc = .ok (.ireturn, 1)) : W p l e R s m args below meth c s.heap [] 0 0 (MQ below (qR r) args s 0 0 (fun _ => False)) (F0 m pc ls [.int (iI v)]) := by
  subst hv
  exact W.iret hC.1 hC.2.1 hr (fun t ht _ => ⟨rfl, ht⟩) (fun q h => by cases h) hdg hlk
theorem rt_RZ {v r : Int} (hC : CallFix p m c cc nL s args tws own) (hr : meth.sig.returnType = some .boolean) (hlk : meth.locks = false) (hz : v = 0 ∨ v = 1) (hv : v = r) (hdg : decode cc pc = .ok (.ireturn, 1)) : W p l e R s m args below meth c s.heap [] 0 0 (MQ below (qR r) args s 0 0 (fun _ => False)) (F0 m pc ls [.int (iI v)]) := by
  subst hv
  exact W.zret hC.1 hC.2.1 hr (nar_b hz) (fun t ht _ => ⟨rfl, ht⟩) (fun q h => by cases h) hdg hlk
theorem rt_W {v r : Int} {S' : St} (hC : CallFix p m c cc nL s args tws own) (hr : meth.sig.returnType = some .int) (hlk : meth.locks = false) (hw : wh G S s H locs) (hv : v = r) (hS : S = S') (hdg : decode cc pc = .ok (.ireturn, 1)) : W p l e R s m args below meth c H locs cells slots (MQ below (qW G S' r) args s cells slots (gA G)) (F0 m pc ls [.int (iI v)]) := by
  subst hv
  subst hS
  exact W.iret hC.1 hC.2.1 hr (fun t ht _ => ⟨rfl, by rw [ht]; exact hw.2.1, hw.2.2.2.F ht⟩) (fun q h => hw.2.2.2.2.2 q h) hdg hlk
theorem rt_WZ {v r : Int} {S' : St} (hC : CallFix p m c cc nL s args tws own) (hr : meth.sig.returnType = some .boolean) (hlk : meth.locks = false) (hw : wh G S s H locs) (hz : v = 0 ∨ v = 1) (hv : v = r) (hS : S = S') (hdg : decode cc pc = .ok (.ireturn, 1)) : W p l e R s m args below meth c H locs cells slots (MQ below (qW G S' r) args s cells slots (gA G)) (F0 m pc ls [.int (iI v)]) := by
  subst hv
  subst hS
  exact W.zret hC.1 hC.2.1 hr (nar_b hz) (fun t ht _ => ⟨rfl, by rw [ht]; exact hw.2.1, hw.2.2.2.F ht⟩) (fun q h => hw.2.2.2.2.2 q h) hdg hlk
theorem rt_V {S' : St} (hC : CallFix p m c cc nL s args tws own) (hr : meth.sig.returnType = none) (hlk : meth.locks = false) (hw : wh G S s H locs) (hS : S = S') (hdg : decode cc pc = .ok (.return_, 1)) : W p l e R s m args below meth c H locs cells slots (MQ below (qV G S') args s cells slots (gA G)) (F0 m pc ls []) := by
  subst hS
  exact W.vret hC.1 hC.2.1 hr (fun t ht _ => ⟨rfl, by rw [ht]; exact hw.2.1, hw.2.2.2.F ht⟩) (fun q h => hw.2.2.2.2.2 q h) hdg hlk
/-- behind a call of a method that only reads -/
theorem go_R {r : Int} {a : Array Value} {st0 : List Value} (hr : va_Run p l e R s m args below meth c H locs cells slots 0 0 (F0 m pc ls st0) rest (qR r a) (fun _ => False))
    (kk : W p l e R s m args below meth c H locs cells slots Q (F0 m (pc + 3) ls (.int (iI r) :: rest))) : W p l e R s m args below meth c H locs cells slots Q (F0 m pc ls st0) := by
  intro T hT X
  obtain ⟨v, st₀, t, T', L, h0, X', hL, e1, -, ⟨hv, hh⟩, st⟩ := hr T hT X
  cases hv
  obtain ⟨t2, a1, b1⟩ := kk T' (by rw [e1, hh, h0]) (Stand.forget X' (fun q h => (hL q h).elim))
  exact ⟨t2, st t2 a1, b1⟩
theorem go_W {r : Int} {S' : St} {a : Array Value} {st0 : List Value} (hr : va_Run p l e R s m args below meth c H locs cells slots 0 0 (F0 m pc ls st0) rest (qW G S' r a) (gA G)) (hw : wh G S s H locs)
    (kk : ∀ (H : Heap) (locs : List Loc), wh G S' s H locs → W p l e R s m args below meth c H locs cells slots Q (F0 m (pc + 3) ls (.int (iI r) :: rest))) : W p l e R s m args below meth c H locs cells slots Q (F0 m pc ls st0) := by
  intro T hT X
  obtain ⟨v, st₀, t, T', L, h0, X', hL, e1, -, ⟨hv, hP, hz, hk⟩, st⟩ := hr T hT X
  cases hv
  rw [h0] at hz hk
  obtain ⟨t2, a1, b1⟩ := kk T'.heap (locs ++ L) ⟨hw.1, by rw [e1]; exact hP, wd_D S' hw.2.2.1, Nat.le_trans hw.2.2.2.1 (by rw [e1]; exact hz), fun q h1 h2 => by rw [e1, hk q (Nat.lt_of_lt_of_le h1 hw.2.2.2.1) h2]; exact hw.2.2.2.2.1 q h1 h2, fun q hq => by
      rcases List.mem_append.mp hq with h | h
      · exact hw.2.2.2.2.2 q h
      · exact hL q h⟩ T' rfl X'
  exact ⟨t2, st t2 a1, b1⟩
theorem go_V {S' : St} {a : Array Value} {st0 : List Value} (hr : va_Run p l e R s m args below meth c H locs cells slots 0 0 (F0 m pc ls st0) rest (qV G S' a) (gA G)) (hw : wh G S s H locs)
    (kk : ∀ (H : Heap) (locs : List Loc), wh G S' s H locs → W p l e R s m args below meth c H locs cells slots Q (F0 m (pc + 3) ls rest)) : W p l e R s m args below meth c H locs cells slots Q (F0 m pc ls st0) := by
  intro T hT X
  obtain ⟨v, st₀, t, T', L, h0, X', hL, e1, -, ⟨hv, hP, hz, hk⟩, st⟩ := hr T hT X
  cases hv
  rw [h0] at hz hk
  obtain ⟨t2, a1, b1⟩ := kk T'.heap (locs ++ L) ⟨hw.1, by rw [e1]; exact hP, wd_D S' hw.2.2.1, Nat.le_trans hw.2.2.2.1 (by rw [e1]; exact hz), fun q h1 h2 => by rw [e1, hk q (Nat.lt_of_lt_of_le h1 hw.2.2.2.1) h2]; exact hw.2.2.2.2.1 q h1 h2, fun q hq => by
      rcases List.mem_append.mp hq with h | h
      · exact hw.2.2.2.2.2 q h
      · exact hL q h⟩ T' rfl X'
  exact ⟨t2, st t2 a1, b1⟩
variable {y : MethodName} {b : ByteArray} {maxL mc ms n index : Nat} {ret : Option FieldType} {rm : Room} {Qc : Array Value → State → Outcome → State → Prop} {free : Addr → Prop} {As : List Value} {st0 : List Value}
/-- the words of a call, out of the tables -/
theorem mkB (hC : CallFix p m c cc nL s args tws own) (n : Nat) (hcode : Cond.code y b maxL ret ∈ tws) (hini : Cond.initialized y.cls ∈ tws) (hlink : Cond.methodLink own index y ∈ tws) (hrc : rm.cells = mc) (hrs : rm.slots = ms) (hd : y.cls ≠ "java/lang/invoke/MethodHandle" ∧ y.cls ≠ "java/lang/invoke/VarHandle" ∧ (parseMethodDescriptor y.desc).map (fun d => d.parameters.length) = some n) (hf : rm.frames + 1 ≤ R.frames) (hlo : 8 + (maxL + 11) + rm.locals ≤ R.locals) : CallB R s args own index y b maxL ret [.code y b maxL ret] rm mc ms n := by
  have hts := hC.2.2.2.2
  refine ⟨hrc, hrs, hf, hlo, fun w hw a' U hW => tw_warm hW hts w (by rw [List.mem_singleton.mp hw]; exact hcode), List.mem_cons_self, hts _ hcode, hts _ hini, ⟨hd.1, hd.2.1⟩, fun sig h => ?_, hts _ hlink⟩
  have h2 := hd.2.2
  rw [h] at h2
  exact (Option.some.inj h2).symm
theorem mkN {host : String} (hC : CallFix p m c cc nL s args tws own) (n : Nat) (hcode : Cond.code y b maxL ret ∈ tws) (hini : Cond.initialized y.cls ∈ tws) (hlink : Cond.methodLinkNest own index y host ∈ tws) (hrc : rm.cells = mc) (hrs : rm.slots = ms) (hd : y.cls ≠ "java/lang/invoke/MethodHandle" ∧ y.cls ≠ "java/lang/invoke/VarHandle" ∧ (parseMethodDescriptor y.desc).map (fun d => d.parameters.length) = some n) (hf : rm.frames + 1 ≤ R.frames) (hlo : 8 + (maxL + 11) + rm.locals ≤ R.locals) : va_CN R s args own index y host b maxL ret [.code y b maxL ret] rm mc ms n := by
  have hts := hC.2.2.2.2
  refine ⟨⟨hrc, hrs, hf, hlo, fun w hw a' U hW => tw_warm hW hts w (by rw [List.mem_singleton.mp hw]; exact hcode), List.mem_cons_self⟩, hts _ hcode, hts _ hini, ⟨hd.1, hd.2.1⟩, fun sig h => ?_, hts _ hlink⟩
  have h2 := hd.2.2
  rw [h] at h2
  exact (Option.some.inj h2).symm
/-- a call of an instance method of one of the world's objects -/
theorem ca_V {C : String} {ci q : Nat} {fs : List Value} {T : u_T} {N : Nat} (hC : CallFix p m c cc nL s args tws own) (hw : wh G S s H locs) (hM : Met l y [.code y b maxL ret] rm (va_Pc (.ref (G.2.1 q) :: As) (fun U => wu G S U)) Qc mc ms free) (cw : CallW R s args own C index y b maxL ret [.code y b maxL ret] rm mc ms n) (hq : q < 45) (he : cellOf G q (S q) = .inr (ci, fs)) (hc : cls_all[ci]? = some (C, T, N))
    (hn : As.length = n) (hsize : ls.size = nL) (hstack : st0 = As.reverse ++ .ref (G.2.1 q) :: rest) (hroom : (rest.map fun v => v.category).sum ≤ 8) (hdg : decode cc pc = .ok (.invokevirtual index, 3)) (hf : cells + mc ≤ R.cells ∧ slots + ms ≤ R.slots) :
    va_Run p l e R s m args below meth c H locs cells slots mc ms (F0 m pc ls st0) rest (Qc (Value.ref (G.2.1 q) :: As).toArray) free :=
  va_runV hC hM cw ⟨wu_blind _ G S, va_recv hw.1 hw.2.1 hc (by rw [wd_at G S hq, he]), fun U hU hW => ⟨rfl, wu_of hw hC.2.2.2.2 hU hW⟩⟩ rfl hn hsize hstack (lv_room hroom) hdg hf
theorem ca_S (hC : CallFix p m c cc nL s args tws own) (hw : wh G S s H locs) (hM : Met l y [.code y b maxL ret] rm (va_Pc As (fun U => wu G S U)) Qc mc ms free) (cw : CallB R s args own index y b maxL ret [.code y b maxL ret] rm mc ms n ∧ (Cond.static y).before args s = true)
    (hn : As.length = n) (hsize : ls.size = nL) (hstack : st0 = As.reverse ++ rest) (hroom : (rest.map fun v => v.category).sum ≤ 8) (hdg : decode cc pc = .ok (.invokestatic index, 3)) (hf : cells + mc ≤ R.cells ∧ slots + ms ≤ R.slots) :
    va_Run p l e R s m args below meth c H locs cells slots mc ms (F0 m pc ls st0) rest (Qc As.toArray) free :=
  va_runS hC hM cw ⟨wu_blind _ G S, fun U hU hW => ⟨rfl, wu_of hw hC.2.2.2.2 hU hW⟩⟩ rfl hn hsize hstack (lv_room hroom) hdg hf
theorem ca_N {host : String} (hC : CallFix p m c cc nL s args tws own) (hw : wh G S s H locs) (hM : Met l y [.code y b maxL ret] rm (va_Pc As (fun U => wu G S U)) Qc mc ms free) (cw : va_CN R s args own index y host b maxL ret [.code y b maxL ret] rm mc ms n ∧ (Cond.static y).before args s = true ∧ True)
    (hn : As.length = n) (hsize : ls.size = nL) (hstack : st0 = As.reverse ++ rest) (hroom : (rest.map fun v => v.category).sum ≤ 8) (hdg : decode cc pc = .ok (.invokestatic index, 3)) (hf : cells + mc ≤ R.cells ∧ slots + ms ≤ R.slots) :
    va_Run p l e R s m args below meth c H locs cells slots mc ms (F0 m pc ls st0) rest (Qc As.toArray) free :=
  va_runSN hC hM cw ⟨wu_blind _ G S, fun U hU hW => ⟨rfl, wu_of hw hC.2.2.2.2 hU hW⟩⟩ rfl hn hsize hstack (lv_room hroom) hdg hf
end CL

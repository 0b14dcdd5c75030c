/-! rows of the law's own walk -/
theorem i32_of (x : Int32) : i32 x.toInt := by
  have h1 := Int32.minValue_le_toInt x
  have h2 := Int32.toInt_le x
  unfold i32
  have e1 : Int32.minValue.toInt = -2147483648 := by decide
  have e2 : Int32.maxValue.toInt = 2147483647 := by decide
  rw [e1] at h1
  rw [e2] at h2
  exact ⟨h1, h2⟩
/-- what the law's walk stands on -/
def LwC (p : Program) (l : Launch) (s : State) (m : MethodId) (c : Code) (b L : Nat) (xs : Nat → Int32) (G : Gt) : Prop :=
  CallFix p m c code 7 s #[Value.ref b] tws "ChannelRulesLaw" ∧ va_X b L xs s s.heap ∧ b < s.heap.size ∧ G.2.2.2 = s.heap.size ∧ exw txs s ∧ ncs s ∧ gvt G s ∧ (∀ e : Env, l.admits e → e.platform.stackTraces = false) ∧ L ≤ 2560
section LR
variable {p : Program} {l : Launch} {e : Env} {R : Room} {s : State} {m : MethodId} {below : List Frame} {meth : Method} {c : Code} {H : Heap} {locs : List Loc} {cells slots : Nat} {Q : State → Prop} {args : Array Value}
variable {cc : ByteArray} {pc nL b L : Nat} {xs : Nat → Int32} {ls : Array Slot} {rest st0 As : List Value} {G : Gt} {S S' : St} {own : String} {y : MethodName} {by0 : ByteArray} {maxL n index mc ms : Nat} {ret : Option FieldType} {rm : Room} {hh : List (Nat × Nat × Nat × Nat)} {r : Int}
theorem lw_old (hG : G.2.2.2 = s.heap.size) (hw : wh G S s H locs) {a : Nat} (ha : a < s.heap.size) : H[a]? = s.heap[a]? := hw.2.2.2.2.1 a ha (by show ¬ G.2.2.2 ≤ a; omega)
theorem sl_ld (hK : LwC p l s m c b L xs G) (hw : wh G S s H locs) {z : Int} (h0 : 0 ≤ z) (h1 : z < L) (hdg : decode code pc = .ok (.iaload, 1))
    (kk : W p l e R s m #[Value.ref b] below meth c H locs cells slots Q (F0 m (pc + 1) ls (.int (iI (xs z.toNat).toInt) :: rest))) : W p l e R s m #[Value.ref b] below meth c H locs cells slots Q (F0 m pc ls (.int (iI z) :: .ref b :: rest)) := by
  obtain ⟨hC, hX, hb, hG, -, -, -, -, hL⟩ := hK
  refine va_sld hC.1 hC.2.1 hX hb (show ¬ G.2.2.2 ≤ b by omega) hw.2.2.2 (iI_in h0 h1 (by omega)) hdg ?_
  rw [iI_clamp h0 (by omega)]
  rw [← iI_of (xs z.toNat)] at kk
  exact kk
/-- a call of one of the law's helpers -/
theorem run_H (hK : LwC p l s m c b L xs G) (hw : wh G S s H locs) (hM : Met l y [.codeWith y by0 maxL (some .int) hh] rm (va_Pc As (fun U => wu G S U ∧ exw txs U ∧ ncs U)) (qW G S' r) 1 6 (gA G)) (hcode : Cond.codeWith y by0 maxL (some .int) hh ∈ tws) (hini : Cond.initialized y.cls ∈ tws) (hit : Cond.initialized "java/lang/Throwable" ∈ tws) (hstat : Cond.static y ∈ tws) (hlink : Cond.methodLink "ChannelRulesLaw" index y ∈ tws)
    (hrc : rm.cells = 1) (hrs : rm.slots = 6) (hfr : rm.frames + 1 ≤ R.frames) (hlo : 8 + (maxL + 11) + rm.locals ≤ R.locals) (hd : y.cls ≠ "java/lang/invoke/MethodHandle" ∧ y.cls ≠ "java/lang/invoke/VarHandle" ∧ (parseMethodDescriptor y.desc).map (fun d => d.parameters.length) = some n) (hn : As.length = n) (hsize : ls.size = 7) (hstack : st0 = As.reverse ++ rest) (hroom : (rest.map fun v => v.category).sum ≤ 8) (hdg : decode code pc = .ok (.invokestatic index, 3)) (hf : cells + 1 ≤ R.cells ∧ slots + 6 ≤ R.slots) :
    va_Run p l e R s m #[Value.ref b] below meth c H locs cells slots 1 6 (F0 m pc ls st0) rest (qW G S' r As.toArray) (gA G) := by
  obtain ⟨hC, hX, hb, hG, hxw, hnc, -, -, hL⟩ := hK
  have hts := hC.2.2.2.2
  have hbl : FrameBlind (va_Pc As (fun U => wu G S U ∧ exw txs U ∧ ncs U)) := by
    intro a U g mk h
    obtain ⟨h0, h1, h2, h3⟩ := h
    have := exw_blind As G S txs hit a U g mk ⟨h0, h1, h2⟩
    exact ⟨this.1, this.2.1, this.2.2, ncs_keep (s := U) (U := U.calling g mk a) (State.WarmedH.refl U) h3⟩
  have hw1 : ∀ w ∈ [Cond.codeWith y by0 maxL (some .int) hh], ∀ (a' : Array Value) (U : State), s.WarmedH U.vm → w.before a' U = true := fun w hw a' U hW => tw_warm hW hts w (by rw [List.mem_singleton.mp hw]; exact hcode)
  have hKb : Back l R p e below s #[Value.ref b] y 3 8 (PreOf R 1 6 (va_Pc As (fun U => wu G S U ∧ exw txs U ∧ ncs U))) (PostOf (qW G S' r) 1 6 (gA G)) := va_backW (hh := hh) (bytes := by0) (maxL := maxL) (ret := some .int) hM hbl hrc hrs hfr hlo hw1 List.mem_cons_self (fun a' U hW => tw_warm hW hts _ hini)
  intro T hT X
  obtain ⟨mk, methM, cM, hnamed, hmethM, -, -, -, -, -, -, hsigM⟩ := Cond.codeWith_spec (hts _ hcode)
  have hstatic : methM.isStatic = true := Cond.static_spec hnamed hmethM (hts _ hstat)
  obtain ⟨kP, hkP, -⟩ := className_of_methodNamed hnamed
  have hinitP : kP.init = .initialized := Cond.initialized_spec (findClass_of_methodNamed hnamed) hkP (hts _ hini)
  have hlen : As.length = methM.sig.parameters.length := by
    have h2 := hd.2.2
    rw [hsigM] at h2
    rw [hn]
    exact (Option.some.inj h2).symm
  obtain ⟨vm₁, X₁, hstep₁⟩ := X.invokestatic hC.1 hC.2.2.2.1 (hts _ hlink) hnamed hmethM hstatic hkP hinitP ⟨hd.1, hd.2.1⟩ (g := F0 m pc ls st0) rfl (argsL := As) (rest := rest) hlen hstack (by rw [hC.2.1]; exact hdg)
  obtain ⟨v, ⟨U', l2, c2, s2⟩, X', ⟨g', mk', t, L1, e1, e2, hq, h1, hL1, h2, h3⟩, hsteps⟩ := hKb m meth c ⟨T.setVm vm₁, locs, cells, slots⟩ { F0 m pc ls st0 with stack := rest } (.invokestatic index) mk As.toArray X₁ rfl (hsize.trans hC.2.2.1.symm) (by rw [hC.2.1]; exact hdg) (lv_room hroom) (X₁.named hnamed)
    ⟨hf.1, hf.2, rfl, wu_of hw hts hT X₁.warmed, exw_keep X₁.warmed (fun a ha => by show T.heap[a]? = _; rw [hT]; exact lw_old hG hw ha) (hts _ hit) hxw, ncs_keep X₁.warmed hnc⟩
  dsimp only [Pt.U, Pt.locs, Pt.cells, Pt.slots] at X' e1 e2 h1 h2 h3 hsteps
  subst h1; subst h2; subst h3
  exact ⟨v, (T.setVm vm₁).calling g' mk' As.toArray, t, U', L1, hT, X', hL1, e1, e2, hq, fun target h => hstep₁ _ fun acts => by rw [doInvoke_state]; exact hsteps.trans h⟩
theorem go_H {a : Array Value} (hr : va_Run p l e R s m args below meth c H locs cells slots 1 6 (F0 m pc ls st0) rest (qW G S' r a) (gA G)) (hw : wh G S s H locs)
    (kk : ∀ (H : Heap) (locs : List Loc), wh G S' s H locs → W p l e R s m args below meth c H locs (cells + 1) (slots + 6) Q (F0 m (pc + 3) ls (.int (iI r) :: rest))) : W p l e R s m args below meth c H locs cells slots Q (F0 m pc ls st0) := by
  intro T hT X
  obtain ⟨v, st₀, t, T', L1, h0, X', hL, e1, -, ⟨hv, hP, hz, hk⟩, st⟩ := hr T hT X
  cases hv
  rw [h0] at hz hk
  obtain ⟨t2, a1, b1⟩ := kk T'.heap (locs ++ L1) ⟨hw.1, by rw [e1]; exact hP, wd_D S' hw.2.2.1, Nat.le_trans hw.2.2.2.1 (by rw [e1]; exact hz), fun q h1 h2 => by rw [e1, hk q (Nat.lt_of_lt_of_le h1 hw.2.2.2.1) h2]; exact hw.2.2.2.2.1 q h1 h2, fun q hq => by
      rcases List.mem_append.mp hq with h | h
      · exact hw.2.2.2.2.2 q h
      · exact hL q h⟩ T' rfl X'
  exact ⟨t2, st t2 a1, b1⟩
/-- a call of rule, which reads the table of greatest values -/
theorem ca_Z {C : String} {ci q : Nat} {fs : List Value} {T : u_T} {N : Nat} {Qc : Array Value → State → Outcome → State → Prop} {free : Addr → Prop} (hK : LwC p l s m c b L xs G) (hw : wh G S s H locs) (hM : Met l y [.code y by0 maxL ret] rm (va_Pc (.ref (G.2.1 q) :: As) (fun U => wu G S U ∧ gvt G U)) Qc mc ms free) (cw : CallW R s #[Value.ref b] "ChannelRulesLaw" C index y by0 maxL ret [.code y by0 maxL ret] rm mc ms n) (hq : q < 45) (he : cellOf G q (S q) = .inr (ci, fs)) (hc : cls_all[ci]? = some (C, T, N))
    (hn : As.length = n) (hsize : ls.size = 7) (hstack : st0 = As.reverse ++ .ref (G.2.1 q) :: rest) (hroom : (rest.map fun v => v.category).sum ≤ 8) (hdg : decode code pc = .ok (.invokevirtual index, 3)) (hf : cells + mc ≤ R.cells ∧ slots + ms ≤ R.slots) :
    va_Run p l e R s m #[Value.ref b] below meth c H locs cells slots mc ms (F0 m pc ls st0) rest (Qc (Value.ref (G.2.1 q) :: As).toArray) free := by
  obtain ⟨hC, hX, hb, hG, hxw, hnc, hgv, -, hL⟩ := hK
  refine va_runV hC hM cw ⟨gvt_blind _ G S, va_recv hw.1 hw.2.1 hc (by rw [wd_at G S hq, he]), fun U hU hW => ⟨rfl, wu_of hw hC.2.2.2.2 hU hW, ?_⟩⟩ rfl hn hsize hstack (lv_room hroom) hdg hf
  obtain ⟨t, h1, h2⟩ := hgv
  refine ⟨t, (h1.moved hW.alike).kept (fun a ha hA => ?_), (h2.moved hW.alike).kept (fun a ha hA => ?_)⟩
  · rw [hU]; exact lw_old hG hw ha
  · rw [hU]; exact lw_old hG hw ha
theorem lc_eq {x z : Int64} (h : x = z) (hC : CallFix p m c cc nL s args tws own) (hdg : decode cc pc = .ok (.lcmp, 1))
    (kk : W p l e R s m args below meth c H locs cells slots Q (F0 m (pc + 1) ls (.int (iI 0) :: rest))) : W p l e R s m args below meth c H locs cells slots Q (F0 m pc ls (.long z :: .long x :: rest)) := by
  subst h
  refine W.lcmp hC.1 hC.2.1 hdg ?_
  have e : lg_cmp x x = iI 0 := by
    unfold lg_cmp
    rw [if_neg (by simp), if_pos rfl]
    rfl
  rw [e]
  exact kk
end LR

/-! constructors: cells come one behind another, at the heap's end -/
/-- ws: all cells from h0 on, in the order in which they came -/
def cwd (G : Gt) (h0 : Nat) (ws : va_W) (s : State) (H : Heap) (locs : List Loc) : Prop :=
  va_K G.1 cls_all (tysG G) s ∧ va_P G.1 cls_all ws H ∧ (∀ (k : Nat) (q : Nat × va_E), ws[k]? = some q → q.1 = h0 + k) ∧ H.size = h0 + ws.length ∧ va_S (fun q => h0 ≤ q) s.heap H locs ∧ h0 ≤ s.heap.size
theorem cw_D {h0 : Nat} {ws : va_W} (h : ∀ (k : Nat) (q : Nat × va_E), ws[k]? = some q → q.1 = h0 + k) : va_D (fun q => h0 ≤ q) ws :=
  ⟨fun i j x y hi hj e => by have h1 := h i x hi; have h2 := h j y hj; omega, fun k q hk => by have := h k q hk; show h0 ≤ q.1; omega⟩
theorem sq_app {h0 n : Nat} {w0 w1 : va_W} (ha : ∀ (k : Nat) (q : Nat × va_E), w0[k]? = some q → q.1 = h0 + k) (hn : h0 + w0.length = n) (hb : ∀ (k : Nat) (q : Nat × va_E), w1[k]? = some q → q.1 = n + k) : ∀ (k : Nat) (q : Nat × va_E), (w0 ++ w1)[k]? = some q → q.1 = h0 + k := by
  intro k q hk
  by_cases hl : k < w0.length
  · rw [List.getElem?_append_left hl] at hk
    exact ha k q hk
  · rw [List.getElem?_append_right (by omega)] at hk
    have := hb _ q hk
    omega
theorem sq_one {n : Nat} {e0 : va_E} : ∀ (k : Nat) (q : Nat × va_E), ([(n, e0)] : va_W)[k]? = some q → q.1 = n + k := by
  intro k q hk
  have hz : k < 1 := (List.getElem?_eq_some_iff.mp hk).1
  obtain rfl : k = 0 := by omega
  cases hk
  rfl
theorem sq_cons {h0 : Nat} {e0 : va_E} {tl : va_W} (h : ∀ (k : Nat) (q : Nat × va_E), tl[k]? = some q → q.1 = h0 + 1 + k) : ∀ (k : Nat) (q : Nat × va_E), ((h0, e0) :: tl)[k]? = some q → q.1 = h0 + k := by
  intro k q hk
  cases k with
  | zero =>
    cases hk
    rfl
  | succ k =>
    have := h k q hk
    omega
theorem sq_nil {n : Nat} : ∀ (k : Nat) (q : Nat × va_E), ([] : va_W)[k]? = some q → q.1 = n + k := by
  intro k q hk
  cases hk
theorem sq_of {h0 : Nat} {ws : va_W} (h : ws.map (fun q => q.1) = (List.range ws.length).map (fun k => h0 + k)) : ∀ (k : Nat) (q : Nat × va_E), ws[k]? = some q → q.1 = h0 + k := by
  intro k q hk
  have hl : k < ws.length := (List.getElem?_eq_some_iff.mp hk).1
  have h1 : (ws.map (fun q => q.1))[k]? = some q.1 := by rw [List.getElem?_map, hk]; rfl
  rw [h, List.getElem?_map, List.getElem?_range hl] at h1
  exact (Option.some.inj h1).symm
theorem sq_set {h0 a : Nat} {ws : va_W} {e0 : va_E} {j : Nat} {e1 : va_E} (ha : ∀ (k : Nat) (q : Nat × va_E), ws[k]? = some q → q.1 = h0 + k) (hj : ws[j]? = some (a, e1)) : ∀ (k : Nat) (q : Nat × va_E), (ws.set j (a, e0))[k]? = some q → q.1 = h0 + k := by
  intro k q hk
  by_cases h : j = k
  · subst h
    have hl : j < ws.length := (List.getElem?_eq_some_iff.mp hj).1
    rw [List.getElem?_set_self hl] at hk
    cases hk
    exact ha j (a, e1) hj
  · rw [List.getElem?_set_ne h] at hk
    exact ha k q hk
/-- at a constructor's start: its object is the last cell -/
def bu (G : Gt) (h0 : Nat) (e0 : va_E) (U : State) : Prop := va_K G.1 cls_all (tysG G) U ∧ U.heap.size = h0 + 1 ∧ va_P G.1 cls_all [(h0, e0)] U.heap ∧ ∀ w ∈ tws, w.before #[] U = true
/-- at its end: the cells w1 stand from h0 on -/
abbrev qB (G : Gt) (h0 : Nat) (w1 : va_W) : Array Value → State → Outcome → State → Prop := fun _ st oc t => oc = .returned none ∧ t.heap.size = h0 + w1.length ∧ va_P G.1 cls_all w1 t.heap ∧ ∀ q : Nat, q < h0 → t.heap[q]? = st.heap[q]?
theorem bu_blind (As : List Value) (G : Gt) (h0 : Nat) (e0 : va_E) : FrameBlind (va_Pc As (fun U => bu G h0 e0 U)) := by
  intro a U g mk h
  obtain ⟨q0, h1, h2, h3, h4⟩ := h
  exact ⟨q0, va_K.moved (u := U) (U := U.calling g mk a) (Vm.Alike.refl U.vm) h1, h2, h3, tw_same (s := U) (U := U.calling g mk a) rfl h4⟩
theorem bt_of {l : Launch} {y : MethodName} {b : ByteArray} {rm : Room} {G : Gt} {h0 : Nat} {e0 : va_E} {Qc : Array Value → State → Outcome → State → Prop} {mc ms : Nat} {free : Addr → Prop} (hy : plainName y.cls = true) (hyn : y.name = "<init>")
    (body : ∀ (p : Program) (e : Env) (s : State) (m : MethodId) (below : List Frame) (meth : Method) (c : Code) (ls : Array Slot), CallFix p m c b 1 s #[Value.ref h0] tws y.cls → meth.sig.returnType = none → meth.locks = false → meth.name = "<init>" → cwd G h0 [(h0, e0)] s s.heap [] → lv_has ls 1 [(0, Value.ref h0)] → W p l e rm s m #[Value.ref h0] below meth c s.heap [] 0 0 (MQ below Qc #[Value.ref h0] s mc ms free) (F0 m 0 ls [])) :
    Met l y [.code y b 1 none] rm (va_Pc [.ref h0] (fun U => bu G h0 e0 U)) Qc mc ms free := by
  refine Met.ofW (cc := b) (maxL := 1) (ret := none) hy rfl ?_
  intro p e s m args below meth c s₁ B hml hv
  obtain ⟨rfl, hK, hz, hP, ht⟩ := hv
  rw [lg_entry_eq]
  have hts : ∀ w ∈ tws, w.before #[Value.ref h0] s = true := tw_same (s := s) (U := s) rfl ht
  have hl := lv_entry [Value.ref h0] (n := 1) (Nat.le_of_ble_eq_true rfl)
  have hin : meth.name = "<init>" := (name_of_methodNamed B.named B.method).1.trans hyn
  exact body p e s m below meth c _ ⟨B.exec, B.bytes, hml, findClass_of_methodNamed B.named, hts⟩ B.returns B.notSynchronized hin ⟨hK, hP, sq_one, hz, va_S.rf, by omega⟩ hl
section BN
variable {p : Program} {l : Launch} {e : Env} {R : Room} {s : State} {m : MethodId} {args : Array Value} {below : List Frame} {meth : Method} {c : Code} {H : Heap} {locs : List Loc} {cells slots : Nat} {Q : State → Prop}
variable {cc : ByteArray} {pc nL : Nat} {ls : Array Slot} {rest : List Value} {G : Gt} {own : String} {h0 : Nat} {ws : va_W}
theorem bn_new {C : String} {T : u_T} {N ci index : Nat} (hC : CallFix p m c cc nL s args tws own) (hin : ∀ w ∈ u_ws C T N, w ∈ tws) (ty : Nat → FieldType) (hty : ∀ k, k < N → parseFieldDescriptor (T k).2.2.1 = some (ty k)) (hcl : Cond.classLink own index C ∈ tws) (hinst : Cond.instantiable C N ∈ tws) (hini : Cond.initialized C ∈ tws) (hw : cwd G h0 ws s H locs) (hc : cls_all[ci]? = some (C, T, N)) {fs : List Value} (hfs : ∀ j, j < N → defaultValue (ty j) = vp_V fs j) (hcells : cells + 1 ≤ R.cells) (hslots : slots + N ≤ R.slots) (n : Nat) (hn : h0 + ws.length = n) (hdg : decode cc pc = .ok (.new index, 3))
    (kk : ∀ (H : Heap), cwd G h0 (ws ++ [(n, .inr (ci, fs))]) s H locs → W p l e R s m args below meth c H locs (cells + 1) (slots + N) Q (F0 m (pc + 3) ls (.ref n :: rest))) : W p l e R s m args below meth c H locs cells slots Q (F0 m pc ls rest) := by
  obtain ⟨hK, hP, hA, hz, hS, h1⟩ := hw
  have hts := hC.2.2.2.2
  have hKn := hK.1 ci _ hc
  refine W.newcK hC.1 hC.2.1 hC.2.2.2.1 (hts _ hcl) (hts _ hinst) (hts _ hini) rfl hdg hcells hslots hKn.2.1 (hz.trans hn) fun H1 kC hkC e1 z1 o1 => ?_
  have hk : ∀ (k : Nat) (x : Nat × va_E), ws[k]? = some x → H1[x.1]? = H[x.1]? := fun k x hx => o1 x.1 (by have := (hP k x hx).lt; omega)
  refine kk H1 ⟨hK, (hP.kept hk).app (fun k x hx => ?_), sq_app hA hn sq_one, by rw [z1, List.length_append]; simp; omega, ⟨Nat.le_trans hS.1 (by omega), fun x a1 a2 => (o1 x (by have := hS.1; omega)).trans (hS.2.1 x a1 a2), hS.2.2⟩, h1⟩
  have hz : k < 1 := (List.getElem?_eq_some_iff.mp hx).1
  rw [show k = 0 by omega] at hx
  cases hx
  exact ⟨_, hc, (u_born ty hts hin hKn hkC e1 hty).to hfs⟩
theorem bn_arr {atype : ArrayType} {ty : FieldType} (hC : CallFix p m c cc nL s args tws own) (hty : newarray.typeOf atype = ty) (harr : Cond.arrayClass ty ∈ tws) (t0 : Nat) {cA : ClassId} (ht : (tysG G)[t0]? = some (cA, ty)) (hra : va_RA s cA ty → s.vm.findClass ("[" ++ ty.toString) = some cA) (hw : cwd G h0 ws s H locs) {a0 : vp_A} {N : Nat} (ha : ∀ cA : ClassId, vp_cell cA a0 = arrV cA N (fun _ => defaultValue ty)) {z : Int32} (hn0 : ¬ z < 0) (hN : z.toNatClampNeg = N) (hbytes : N * componentBytes ty ≤ 536870912) (hcells : cells + 1 ≤ R.cells) (hslots : slots + N ≤ R.slots) (n : Nat) (hn : h0 + ws.length = n) (hdg : decode cc pc = .ok (.newarray atype, 2))
    (kk : ∀ (H : Heap), cwd G h0 (ws ++ [(n, .inl (cA, a0))]) s H locs → W p l e R s m args below meth c H locs (cells + 1) (slots + N) Q (F0 m (pc + 2) ls (.ref n :: rest))) : W p l e R s m args below meth c H locs cells slots Q (F0 m pc ls (.int z :: rest)) := by
  subst hty
  obtain ⟨hK, hP, hA, hz, hS, h1⟩ := hw
  refine va_newaK hC.1 hC.2.1 (hC.2.2.2.2 _ harr) rfl hdg rfl hn0 hN hbytes hcells hslots (hz.trans hn) fun H1 cB e1 z1 o1 hAr hNm => ?_
  obtain rfl : cA = cB := Option.some.inj ((hra (hK.2 t0 _ ht).2).symm.trans hNm)
  have hk : ∀ (k : Nat) (x : Nat × va_E), ws[k]? = some x → H1[x.1]? = H[x.1]? := fun k x hx => o1 x.1 (by have := (hP k x hx).lt; omega)
  refine kk H1 ⟨hK, (hP.kept hk).app (fun k x hx => ?_), sq_app hA hn sq_one, by rw [z1, List.length_append]; simp; omega, ⟨Nat.le_trans hS.1 (by omega), fun x a1 a2 => (o1 x (by have := hS.1; omega)).trans (hS.2.1 x a1 a2), hS.2.2⟩, h1⟩
  have hz : k < 1 := (List.getElem?_eq_some_iff.mp hx).1
  rw [show k = 0 by omega] at hx
  cases hx
  show H1[n]? = some (vp_cell _ _)
  rw [ha]
  exact e1
theorem bn_int (hC : CallFix p m c cc nL s args tws own) (hw : cwd G h0 ws s H locs) {N : Nat} {z : Int} (h0z : 0 ≤ z) (hz1 : z ≤ 4096) (hN : z.toNat = N) (hcells : cells + 1 ≤ R.cells) (hslots : slots + N ≤ R.slots) (n : Nat) (hn : h0 + ws.length = n) (hdg : decode cc pc = .ok (.newarray .int, 2))
    (kk : ∀ (H : Heap), cwd G h0 (ws ++ [(n, .inl (G.2.2.1 0, N, .inl (fun _ => iI 0)))]) s H locs → W p l e R s m args below meth c H locs (cells + 1) (slots + N) Q (F0 m (pc + 2) ls (.ref n :: rest))) : W p l e R s m args below meth c H locs cells slots Q (F0 m pc ls (.int (iI z) :: rest)) := by
  have hb : z.toNat * componentBytes .int ≤ 536870912 := by
    have e : componentBytes .int = 4 := by decide +kernel
    rw [e]
    omega
  rw [hN] at hb
  refine bn_arr (atype := .int) (ty := .int) hC rfl tw_61 0 rfl (fun h => h) hw (N := N) (fun cA => by rw [vp_cell_i, iI_0]; rfl) ?_ ((iI_clamp h0z (by omega)).trans hN) hb hcells hslots n hn hdg kk
  rw [← iI_0, iI_lt ⟨by omega, by omega⟩ ⟨by omega, by omega⟩]
  omega
theorem bn_bool (hC : CallFix p m c cc nL s args tws own) (hw : cwd G h0 ws s H locs) {N : Nat} {z : Int} (h0z : 0 ≤ z) (hz1 : z ≤ 4096) (hN : z.toNat = N) (hcells : cells + 1 ≤ R.cells) (hslots : slots + N ≤ R.slots) (n : Nat) (hn : h0 + ws.length = n) (hdg : decode cc pc = .ok (.newarray .boolean, 2))
    (kk : ∀ (H : Heap), cwd G h0 (ws ++ [(n, .inl (G.2.2.1 1, N, .inl (fun _ => iI 0)))]) s H locs → W p l e R s m args below meth c H locs (cells + 1) (slots + N) Q (F0 m (pc + 2) ls (.ref n :: rest))) : W p l e R s m args below meth c H locs cells slots Q (F0 m pc ls (.int (iI z) :: rest)) := by
  have hb : z.toNat * componentBytes .boolean ≤ 536870912 := by
    have e : componentBytes .boolean = 1 := by decide +kernel
    rw [e]
    omega
  rw [hN] at hb
  refine bn_arr (atype := .boolean) (ty := .boolean) hC rfl tw_124 1 rfl (fun h => h) hw (N := N) (fun cA => by rw [vp_cell_i, iI_0]; rfl) ?_ ((iI_clamp h0z (by omega)).trans hN) hb hcells hslots n hn hdg kk
  rw [← iI_0, iI_lt ⟨by omega, by omega⟩ ⟨by omega, by omega⟩]
  omega
theorem bn_long (hC : CallFix p m c cc nL s args tws own) (hw : cwd G h0 ws s H locs) {N : Nat} {z : Int} (h0z : 0 ≤ z) (hz1 : z ≤ 4096) (hN : z.toNat = N) (hcells : cells + 1 ≤ R.cells) (hslots : slots + N ≤ R.slots) (n : Nat) (hn : h0 + ws.length = n) (hdg : decode cc pc = .ok (.newarray .long, 2))
    (kk : ∀ (H : Heap), cwd G h0 (ws ++ [(n, .inl (G.2.2.1 2, N, .inr (.inl (fun _ => lI 0))))]) s H locs → W p l e R s m args below meth c H locs (cells + 1) (slots + N) Q (F0 m (pc + 2) ls (.ref n :: rest))) : W p l e R s m args below meth c H locs cells slots Q (F0 m pc ls (.int (iI z) :: rest)) := by
  have hb : z.toNat * componentBytes .long ≤ 536870912 := by
    have e : componentBytes .long = 8 := by decide +kernel
    rw [e]
    omega
  rw [hN] at hb
  have e0 : lI 0 = 0 := by decide +kernel
  refine bn_arr (atype := .long) (ty := .long) hC rfl tw_768 2 rfl (fun h => h) hw (N := N) (fun cA => by rw [vp_cell_l, e0]; rfl) ?_ ((iI_clamp h0z (by omega)).trans hN) hb hcells hslots n hn hdg kk
  rw [← iI_0, iI_lt ⟨by omega, by omega⟩ ⟨by omega, by omega⟩]
  omega
theorem bn_put {C : String} {T : u_T} {N ci index : Nat} (hC : CallFix p m c cc nL s args tws own) (hin : ∀ w ∈ u_ws C T N, w ∈ tws) (ty0 : Nat → FieldType) (hty : ∀ k, k < N → parseFieldDescriptor (T k).2.2.1 = some (ty0 k)) (hnm : ∀ a, a < N → ∀ b, b < N → a ≠ b → (T a).2.1 ≠ (T b).2.1) {a : Nat} {fs fs2 : List Value} {tl : va_W} (hw : cwd G h0 ((a, .inr (ci, fs)) :: tl) s H locs) (hc : cls_all[ci]? = some (C, T, N)) (k : Nat) (hk : k < N) (hlink : Cond.fieldLink own index (T k).1 (T k).2.1 (T k).2.2.1 ∈ tws) (hfin : (T k).2.2.2 = false) {v : Value} (hn : narrow (ty0 k) v = v) (hfit : fits (ty0 k) v = true) (hl : k < fs.length) (hf2 : fs.set k v = fs2) (hdg : decode cc pc = .ok (.putfield index, 3))
    (kk : ∀ (H : Heap) (locs : List Loc), cwd G h0 ((a, .inr (ci, fs2)) :: tl) s H locs → W p l e R s m args below meth c H locs cells slots Q (F0 m (pc + 3) ls rest)) : W p l e R s m args below meth c H locs cells slots Q (F0 m pc ls (v :: .ref a :: rest)) := by
  subst hf2
  obtain ⟨hK, hP, hA, hz, hS0, hh⟩ := hw
  have hts := hC.2.2.2.2
  have hD := cw_D hA
  have he : ((a, .inr (ci, fs)) :: tl : va_W)[0]? = some (a, .inr (ci, fs)) := rfl
  have hap := va_apart (own := own) hts hin ty0 hty hnm hK hc
  obtain ⟨r, h1, cell, q1, q2, q3, q4⟩ := hP 0 _ he
  have hr : r = (C, T, N) := Option.some.inj (h1.symm.trans hc)
  subst hr
  obtain ⟨hS, hfc, kC, hkC, hkind⟩ := hK.1 ci _ hc
  obtain ⟨cf, kf, fi, f, hi, hsl⟩ := hS k hk
  have hlay := hts _ (hin _ (u_in_lay hk))
  unfold u_lay at hlay
  rw [if_neg (by rw [hfin]; decide)] at hlay
  have hst := (u_facts hfc hkC (u_lays hts hin hk) hi).1
  have h6 := u_store hfc hkC hkind hlay hi (hty k hk) hn hfit
  refine W.putK hC.1 hC.2.1 (f := f) ⟨hC.2.2.2.1, hts _ hlink, ⟨_, _, _, hi⟩, hst⟩ (by rw [q2]; exact h6) q1 q3 (by rw [hsl]; exact k2_hasslot (q4 k hk)) rfl rfl hdg fun H' e1 e2 e3 => ?_
  rw [hsl] at e1 ⊢
  exact kk H' _ ⟨hK, hP.set hD he ⟨_, hc, t_OB.to (V := updV (vp_V fs) k v) ⟨_, e1, q2, q3, t_set q4 hap hk v⟩ (fun j _ => vp_updV_set hl v j)⟩ e3, sq_set hA he, e2.trans hz, hS0.put e2 e3 (hD.2 0 _ he), hh⟩
theorem bn_putF {C : String} {T : u_T} {N ci index : Nat} (hC : CallFix p m c cc nL s args tws own) (hin2 : meth.name = "<init>") (hin : ∀ w ∈ u_ws C T N, w ∈ tws) (ty0 : Nat → FieldType) (hty : ∀ k, k < N → parseFieldDescriptor (T k).2.2.1 = some (ty0 k)) (hnm : ∀ a, a < N → ∀ b, b < N → a ≠ b → (T a).2.1 ≠ (T b).2.1) {a : Nat} {fs fs2 : List Value} {tl : va_W} (hw : cwd G h0 ((a, .inr (ci, fs)) :: tl) s H locs) (hc : cls_all[ci]? = some (C, T, N)) (k : Nat) (hk : k < N) (hlink : Cond.fieldLink own index (T k).1 (T k).2.1 (T k).2.2.1 ∈ tws) (hfin : (T k).2.2.2 = true) (hdecl : (T k).1 = own) {v : Value} (hn : narrow (ty0 k) v = v) (hfit : fits (ty0 k) v = true) (hl : k < fs.length) (hf2 : fs.set k v = fs2) (hdg : decode cc pc = .ok (.putfield index, 3))
    (kk : ∀ (H : Heap) (locs : List Loc), cwd G h0 ((a, .inr (ci, fs2)) :: tl) s H locs → W p l e R s m args below meth c H locs cells slots Q (F0 m (pc + 3) ls rest)) : W p l e R s m args below meth c H locs cells slots Q (F0 m pc ls (v :: .ref a :: rest)) := by
  subst hf2
  obtain ⟨hK, hP, hA, hz, hS0, hh⟩ := hw
  have hts := hC.2.2.2.2
  have hD := cw_D hA
  have he : ((a, .inr (ci, fs)) :: tl : va_W)[0]? = some (a, .inr (ci, fs)) := rfl
  have hap := va_apart (own := own) hts hin ty0 hty hnm hK hc
  obtain ⟨r, h1, cell, q1, q2, q3, q4⟩ := hP 0 _ he
  have hr : r = (C, T, N) := Option.some.inj (h1.symm.trans hc)
  subst hr
  obtain ⟨hS, hfc, kC, hkC, hkind⟩ := hK.1 ci _ hc
  obtain ⟨cf, kf, fi, f, hi, hsl⟩ := hS k hk
  have hlay := hts _ (hin _ (u_in_lay hk))
  unfold u_lay at hlay
  rw [if_pos hfin] at hlay
  have hst := (u_facts hfc hkC (u_lays hts hin hk) hi).1
  have hcf : m.cls = cf := by
    obtain ⟨_, _, c', _, _, _, -, -, hf', -, -, -, hown2, -⟩ := Cond.laysFinal_spec hlay
    have e1 : c' = cf := by have := hi.symm.trans hf'; simp at this; exact this.1.symm
    rw [hdecl] at hown2
    rw [← e1]; exact Option.some.inj (hC.2.2.2.1.symm.trans hown2)
  have h6 := u_fits hfc hkC hkind (Or.inr hlay) hi (hty k hk) hn hfit
  refine W.putFinK hC.1 hC.2.1 hC.2.2.2.1 (hts _ hlink) hi hst hcf hin2 (by rw [q2]; exact h6) q1 q3 (by rw [hsl]; exact k2_hasslot (q4 k hk)) rfl rfl hdg fun H' e1 e2 e3 => ?_
  rw [hsl] at e1 ⊢
  exact kk H' _ ⟨hK, hP.set hD he ⟨_, hc, t_OB.to (V := updV (vp_V fs) k v) ⟨_, e1, q2, q3, t_set q4 hap hk v⟩ (fun j _ => vp_updV_set hl v j)⟩ e3, sq_set hA he, e2.trans hz, hS0.put e2 e3 (hD.2 0 _ he), hh⟩
theorem bn_obj {idx a : Nat} (hC : CallFix p m c cc nL s args tws own) (hlink : Cond.methodLink own idx Lib.objectInit ∈ tws) (hsize : ls.size = nL) (hframes : 1 ≤ R.frames) (hlocals : 12 ≤ R.locals) (hdg : decode cc pc = .ok (.invokespecial idx, 3))
    (kk : W p l e R s m args below meth c H locs cells slots Q (F0 m (pc + 3) ls [])) : W p l e R s m args below meth c H locs cells slots Q (F0 m pc ls [.ref a]) := by
  have hts := hC.2.2.2.2
  exact W.objInit hC.1 hC.2.1 hC.2.2.2.1 (hts _ hlink) (hts _ tw_19) (hts _ tw_20) rfl (hsize.trans hC.2.2.1.symm) rfl hdg hframes hlocals kk
theorem rt_B {w1 : va_W} {mc ms : Nat} (hC : CallFix p m c cc nL s args tws own) (hr : meth.sig.returnType = none) (hlk : meth.locks = false) (hw : cwd G h0 ws s H locs) (he : ws = w1) (hcs : cells ≤ mc ∧ slots ≤ ms) (hdg : decode cc pc = .ok (.return_, 1)) : W p l e R s m args below meth c H locs cells slots (MQ below (qB G h0 w1) args s mc ms (fun q => h0 ≤ q)) (F0 m pc ls []) := by
  subst he
  obtain ⟨hK, hP, hA, hz, hS, hh⟩ := hw
  refine W.widen hcs.1 hcs.2 ?_
  exact W.vret hC.1 hC.2.1 hr (fun t ht _ => ⟨rfl, by rw [ht]; exact hz, by rw [ht]; exact hP, fun q hq => by rw [ht]; exact hS.2.1 q (by omega) (by show ¬ h0 ≤ q; omega)⟩) (fun q h => hS.2.2 q h) hdg hlk
/-- a call of a constructor on the last cell -/
theorem ca_C {y : MethodName} {b : ByteArray} {mc ms index h1 : Nat} {rm : Room} {w0 w1 : va_W} {e0 : va_E} {st0 : List Value} (hC : CallFix p m c cc nL s args tws own) (hw : cwd G h0 (w0 ++ [(h1, e0)]) s H locs) (hM : Met l y [.code y b 1 none] rm (va_Pc [.ref h1] (fun U => bu G h1 e0 U)) (qB G h1 w1) mc ms (fun q => h1 ≤ q)) (cw : CallB R s args own index y b 1 none [.code y b 1 none] rm mc ms 0) (hy : y.name = "<init>") (hinst : Cond.instanceMethod y ∈ tws) (hs1 : ∀ (k : Nat) (q : Nat × va_E), w1[k]? = some q → q.1 = h1 + k) (hlen : 1 ≤ w1.length) (hsize : ls.size = nL) (hstack : st0 = .ref h1 :: rest) (hroom : (rest.map fun v => v.category).sum ≤ 8) (hdg : decode cc pc = .ok (.invokespecial index, 3)) (hf : cells + mc ≤ R.cells ∧ slots + ms ≤ R.slots)
    (kk : ∀ (H : Heap) (locs : List Loc), cwd G h0 (w0 ++ w1) s H locs → W p l e R s m args below meth c H locs (cells + mc) (slots + ms) Q (F0 m (pc + 3) ls rest)) : W p l e R s m args below meth c H locs cells slots Q (F0 m pc ls st0) := by
  have hts := hC.2.2.2.2
  obtain ⟨hK, hP, hA, hz, hS, hh⟩ := hw
  have hlast : (w0 ++ [(h1, e0)])[w0.length]? = some (h1, e0) := by simp
  have hh1 : h1 = h0 + w0.length := hA w0.length (h1, e0) hlast
  have hz1 : H.size = h1 + 1 := by rw [hz, List.length_append, hh1]; simp; omega
  have hr := va_runI (R := R) (l := l) (p := p) (e := e) (s := s) (m := m) (args := args) (below := below) (meth := meth) (c := c) (H := H) (locs := locs) (cells := cells) (slots := slots) (g := F0 m pc ls st0) (As := []) (rest := rest) hC hM ⟨cw, hy, hts _ hinst⟩ ⟨bu_blind _ G h1 e0, fun U hU hW => ⟨rfl, va_K.moved hW.alike hK, by rw [hU]; exact hz1, by
      rw [hU]
      intro k q hk
      have hk1 : k < 1 := (List.getElem?_eq_some_iff.mp hk).1
      obtain rfl : k = 0 := by omega
      cases hk
      exact hP _ _ hlast, tw_warm hW hts⟩⟩ rfl rfl hsize hstack (lv_room hroom) hdg hf
  intro T hT X
  obtain ⟨v, st₀, t, T', L, h0', X', hL, e1, -, ⟨hv, hz2, hP2, hk2⟩, st⟩ := hr T hT X
  cases hv
  obtain ⟨t2, a1, b1⟩ := kk T'.heap (locs ++ L) ⟨hK, va_P.app (fun k q hq => by
      have hl : k < w0.length := (List.getElem?_eq_some_iff.mp hq).1
      have hq' : (w0 ++ [(h1, e0)])[k]? = some q := by rw [List.getElem?_append_left hl]; exact hq
      have h2 := hA k q hq'
      exact (hP k q hq').kept (by rw [e1, hk2 q.1 (by omega), h0'])) (by rw [e1]; exact hP2), sq_app (fun k q hq => by
      have hl : k < w0.length := (List.getElem?_eq_some_iff.mp hq).1
      exact hA k q (by rw [List.getElem?_append_left hl]; exact hq)) hh1.symm hs1, by rw [e1, hz2, List.length_append]; omega, ⟨by rw [e1, hz2]; have := hS.1; omega, fun q c1 c2 => by
      have hq : q < h1 := by
        have : ¬ h0 ≤ q := c2
        omega
      rw [e1, hk2 q hq, h0']
      exact hS.2.1 q c1 c2, fun q hq => by
      rcases List.mem_append.mp hq with h | h
      · exact hS.2.2 q h
      · have : h1 ≤ q.base := hL q h
        show h0 ≤ q.base
        omega⟩, hh⟩ T' rfl X'
  exact ⟨t2, st t2 a1, b1⟩
theorem bm_new {x0 : Nat × va_E} {tl : va_W} {C : String} {T : u_T} {N ci index : Nat} (hC : CallFix p m c cc nL s args tws own) (hin : ∀ w ∈ u_ws C T N, w ∈ tws) (ty : Nat → FieldType) (hty : ∀ k, k < N → parseFieldDescriptor (T k).2.2.1 = some (ty k)) (hcl : Cond.classLink own index C ∈ tws) (hinst : Cond.instantiable C N ∈ tws) (hini : Cond.initialized C ∈ tws) (hw : cwd G h0 (x0 :: tl) s H locs) (hc : cls_all[ci]? = some (C, T, N)) {fs : List Value} (hfs : ∀ j, j < N → defaultValue (ty j) = vp_V fs j) (hcells : cells + 1 ≤ R.cells) (hslots : slots + N ≤ R.slots) (n : Nat) (hn : h0 + (tl.length + 1) = n) (hdg : decode cc pc = .ok (.new index, 3))
    (kk : ∀ (H : Heap), cwd G h0 (x0 :: (tl ++ [(n, .inr (ci, fs))])) s H locs → W p l e R s m args below meth c H locs (cells + 1) (slots + N) Q (F0 m (pc + 3) ls (.ref n :: rest))) : W p l e R s m args below meth c H locs cells slots Q (F0 m pc ls rest) := bn_new hC hin ty hty hcl hinst hini hw hc hfs hcells hslots n hn hdg kk
theorem bm_int {x0 : Nat × va_E} {tl : va_W} (hC : CallFix p m c cc nL s args tws own) (hw : cwd G h0 (x0 :: tl) s H locs) {N : Nat} {z : Int} (h0z : 0 ≤ z) (hz1 : z ≤ 4096) (hN : z.toNat = N) (hcells : cells + 1 ≤ R.cells) (hslots : slots + N ≤ R.slots) (n : Nat) (hn : h0 + (tl.length + 1) = n) (hdg : decode cc pc = .ok (.newarray .int, 2))
    (kk : ∀ (H : Heap), cwd G h0 (x0 :: (tl ++ [(n, .inl (G.2.2.1 0, N, .inl (fun _ => iI 0)))])) s H locs → W p l e R s m args below meth c H locs (cells + 1) (slots + N) Q (F0 m (pc + 2) ls (.ref n :: rest))) : W p l e R s m args below meth c H locs cells slots Q (F0 m pc ls (.int (iI z) :: rest)) := bn_int hC hw h0z hz1 hN hcells hslots n hn hdg kk
theorem bm_bool {x0 : Nat × va_E} {tl : va_W} (hC : CallFix p m c cc nL s args tws own) (hw : cwd G h0 (x0 :: tl) s H locs) {N : Nat} {z : Int} (h0z : 0 ≤ z) (hz1 : z ≤ 4096) (hN : z.toNat = N) (hcells : cells + 1 ≤ R.cells) (hslots : slots + N ≤ R.slots) (n : Nat) (hn : h0 + (tl.length + 1) = n) (hdg : decode cc pc = .ok (.newarray .boolean, 2))
    (kk : ∀ (H : Heap), cwd G h0 (x0 :: (tl ++ [(n, .inl (G.2.2.1 1, N, .inl (fun _ => iI 0)))])) s H locs → W p l e R s m args below meth c H locs (cells + 1) (slots + N) Q (F0 m (pc + 2) ls (.ref n :: rest))) : W p l e R s m args below meth c H locs cells slots Q (F0 m pc ls (.int (iI z) :: rest)) := bn_bool hC hw h0z hz1 hN hcells hslots n hn hdg kk
theorem bm_long {x0 : Nat × va_E} {tl : va_W} (hC : CallFix p m c cc nL s args tws own) (hw : cwd G h0 (x0 :: tl) s H locs) {N : Nat} {z : Int} (h0z : 0 ≤ z) (hz1 : z ≤ 4096) (hN : z.toNat = N) (hcells : cells + 1 ≤ R.cells) (hslots : slots + N ≤ R.slots) (n : Nat) (hn : h0 + (tl.length + 1) = n) (hdg : decode cc pc = .ok (.newarray .long, 2))
    (kk : ∀ (H : Heap), cwd G h0 (x0 :: (tl ++ [(n, .inl (G.2.2.1 2, N, .inr (.inl (fun _ => lI 0))))])) s H locs → W p l e R s m args below meth c H locs (cells + 1) (slots + N) Q (F0 m (pc + 2) ls (.ref n :: rest))) : W p l e R s m args below meth c H locs cells slots Q (F0 m pc ls (.int (iI z) :: rest)) := bn_long hC hw h0z hz1 hN hcells hslots n hn hdg kk
theorem cm_C {x0 : Nat × va_E} {tl : va_W} {y : MethodName} {b : ByteArray} {mc ms index h1 : Nat} {rm : Room} {w1 : va_W} {e0 : va_E} {st0 : List Value} (hC : CallFix p m c cc nL s args tws own) (hw : cwd G h0 (x0 :: (tl ++ [(h1, e0)])) s H locs) (hM : Met l y [.code y b 1 none] rm (va_Pc [.ref h1] (fun U => bu G h1 e0 U)) (qB G h1 w1) mc ms (fun q => h1 ≤ q)) (cw : CallB R s args own index y b 1 none [.code y b 1 none] rm mc ms 0) (hy : y.name = "<init>") (hinst : Cond.instanceMethod y ∈ tws) (hs1 : ∀ (k : Nat) (q : Nat × va_E), w1[k]? = some q → q.1 = h1 + k) (hlen : 1 ≤ w1.length) (hsize : ls.size = nL) (hstack : st0 = .ref h1 :: rest) (hroom : (rest.map fun v => v.category).sum ≤ 8) (hdg : decode cc pc = .ok (.invokespecial index, 3)) (hf : cells + mc ≤ R.cells ∧ slots + ms ≤ R.slots)
    (kk : ∀ (H : Heap) (locs : List Loc), cwd G h0 (x0 :: (tl ++ w1)) s H locs → W p l e R s m args below meth c H locs (cells + mc) (slots + ms) Q (F0 m (pc + 3) ls rest)) : W p l e R s m args below meth c H locs cells slots Q (F0 m pc ls st0) := ca_C (w0 := x0 :: tl) hC hw hM cw hy hinst hs1 hlen hsize hstack hroom hdg hf kk
end BN

/-! further rows: truth values, constants, switches, Math -/
def bI (x : Bool) : Int := if x = true then 1 else 0
theorem bI_t : bI true = 1 := rfl
theorem bI_f : bI false = 0 := rfl
theorem bI_01 (x : Bool) : bI x = 0 ∨ bI x = 1 := by cases x <;> simp [bI]
theorem bI_b (x : Bool) : 0 ≤ bI x ∧ bI x ≤ 1 := by cases x <;> simp [bI]
theorem bI_eq {x y : Bool} : bI x = bI y ↔ x = y := by cases x <;> cases y <;> simp [bI]
theorem bI_0 {x : Bool} : bI x = 0 ↔ x = false := by cases x <;> simp [bI]
theorem bI_1 {x : Bool} : bI x = 1 ↔ x = true := by cases x <;> simp [bI]
section R8
variable {p : Program} {l : Launch} {e : Env} {R : Room} {s : State} {m : MethodId} {args : Array Value} {below : List Frame} {meth : Method} {c : Code} {H : Heap} {locs : List Loc} {cells slots : Nat} {Q : State → Prop}
variable {cc : ByteArray} {pc nL : Nat} {ls : Array Slot} {rest : List Value} {G : Gt} {S : St} {own : String}
theorem ir_beq (hC : CallFix p m c cc nL s args tws own) {x : Bool} {off : Int} {tgt : Nat} (hdg : decode cc pc = .ok (.ifCond .eq off, 3)) (ht : (pc : Int) + off = (tgt : Int))
    (kt : x = false → W p l e R s m args below meth c H locs cells slots Q (F0 m tgt ls rest)) (kf : x = true → W p l e R s m args below meth c H locs cells slots Q (F0 m (pc + 3) ls rest)) : W p l e R s m args below meth c H locs cells slots Q (F0 m pc ls (.int (iI (bI x)) :: rest)) := by
  have hb := bI_b x
  exact ir_if_eq hC.1 hC.2.1 hdg ht ⟨by omega, by omega⟩ (fun q => kt (bI_0.mp q)) (fun q => kf (by cases x; exact absurd rfl q; rfl))
theorem ir_bne (hC : CallFix p m c cc nL s args tws own) {x : Bool} {off : Int} {tgt : Nat} (hdg : decode cc pc = .ok (.ifCond .ne off, 3)) (ht : (pc : Int) + off = (tgt : Int))
    (kt : x = true → W p l e R s m args below meth c H locs cells slots Q (F0 m tgt ls rest)) (kf : x = false → W p l e R s m args below meth c H locs cells slots Q (F0 m (pc + 3) ls rest)) : W p l e R s m args below meth c H locs cells slots Q (F0 m pc ls (.int (iI (bI x)) :: rest)) := by
  have hb := bI_b x
  exact ir_if_ne hC.1 hC.2.1 hdg ht ⟨by omega, by omega⟩ (fun q => kt (by cases x; exact absurd rfl q; rfl)) (fun q => kf (bI_0.mp q))
theorem ir_ldc (hC : CallFix p m c cc nL s args tws own) {index : Nat} {v : Int32} (z : Int) (hm : Cond.constant own index v ∈ tws) (hv : v = iI z) (hdg : decode cc pc = .ok (.ldc index, 2)) (k : W p l e R s m args below meth c H locs cells slots Q (F0 m (pc + 2) ls (.int (iI z) :: rest))) : W p l e R s m args below meth c H locs cells slots Q (F0 m pc ls rest) := by
  subst hv
  exact lv_ldc hC.1 hC.2.1 hC.2.2.2.1 (hC.2.2.2.2 _ hm) hdg k
theorem ir_tin (hC : CallFix p m c cc nL s args tws own) {dflt lo hi : Int} {offs : Array Int} {len : Nat} {a : Int} {off : Int} {tgt : Nat} (hdg : decode cc pc = .ok (.tableswitch dflt lo hi offs, len)) (ha : i32 a) (k : Nat) (hk : a = lo + k) (hh : a ≤ hi) (ho : offs[k]? = some off) (ht : (pc : Int) + off = (tgt : Int))
    (kk : W p l e R s m args below meth c H locs cells slots Q (F0 m tgt ls rest)) : W p l e R s m args below meth c H locs cells slots Q (F0 m pc ls (.int (iI a) :: rest)) :=
  lv_tableIn hC.1 hC.2.1 hdg (by rw [iI_toInt ha]; omega) (by rw [iI_toInt ha]; omega) (by rw [iI_toInt ha, show (a - lo).toNat = k by omega]; exact ho) ht kk
theorem ir_tout (hC : CallFix p m c cc nL s args tws own) {dflt lo hi : Int} {offs : Array Int} {len : Nat} {a : Int} {tgt : Nat} (hdg : decode cc pc = .ok (.tableswitch dflt lo hi offs, len)) (ha : i32 a) (h : a < lo ∨ hi < a) (ht : (pc : Int) + dflt = (tgt : Int))
    (kk : W p l e R s m args below meth c H locs cells slots Q (F0 m tgt ls rest)) : W p l e R s m args below meth c H locs cells slots Q (F0 m pc ls (.int (iI a) :: rest)) :=
  lv_tableOut hC.1 hC.2.1 hdg (by rw [iI_toInt ha]; exact h) ht kk
theorem ir_look (hC : CallFix p m c cc nL s args tws own) {dflt : Int} {ps : Array (Int × Int)} {len : Nat} {a : Int} {off : Int} {tgt : Nat} (hdg : decode cc pc = .ok (.lookupswitch dflt ps, len)) (hp : (ps.toList.zip (ps.toList.drop 1)).all (fun (a, next) => a.1 < next.1) = true) (ha : i32 a) (ho : Op.lookupswitch.offset ps.toList dflt a = off) (ht : (pc : Int) + off = (tgt : Int))
    (kk : W p l e R s m args below meth c H locs cells slots Q (F0 m tgt ls rest)) : W p l e R s m args below meth c H locs cells slots Q (F0 m pc ls (.int (iI a) :: rest)) :=
  lv_lookup hC.1 hC.2.1 hdg hp (by rw [iI_toInt ha]; exact ho) ht kk
theorem ir_max (hC : CallFix p m c cc nL s args tws own) {index : Nat} (hlink : Cond.methodLink own index Lib.Math.max.name ∈ tws) (hstat : Cond.static Lib.Math.max.name ∈ tws) (hini : Cond.initialized "java/lang/Math" ∈ tws) (hcode : Cond.code Lib.Math.max.name Lib.Math.max.code 2 (some .int) ∈ tws) (hsize : ls.size = nL)
    (hframes : 1 ≤ R.frames) (hlocals : (rest.map fun v => v.category).sum + 13 ≤ R.locals) (hc : cells ≤ R.cells) (hs : slots ≤ R.slots) {a b : Int} (ha : i32 a) (hb : i32 b) (hdg : decode cc pc = .ok (.invokestatic index, 3))
    (kk : W p l e R s m args below meth c H locs cells slots Q (F0 m (pc + 3) ls (.int (iI (max a b)) :: rest))) : W p l e R s m args below meth c H locs cells slots Q (F0 m pc ls (.int (iI b) :: .int (iI a) :: rest)) := by
  refine va_mmax hC.1 hC.2.1 (by rw [hC.2.2.1, hsize]) hC.2.2.2.1 (hC.2.2.2.2 _ hlink) (hC.2.2.2.2 _ hstat) (hC.2.2.2.2 _ hini) (hC.2.2.2.2 _ hcode) hframes hlocals hc hs hdg ?_
  have e : (if iI a < iI b then iI b else iI a) = iI (max a b) := by
    by_cases h : a < b
    · rw [if_pos ((iI_lt ha hb).mpr h), Int.max_eq_right (by omega)]
    · rw [if_neg (fun z => h ((iI_lt ha hb).mp z)), Int.max_eq_left (by omega)]
  rw [e]
  exact kk
theorem ir_min (hC : CallFix p m c cc nL s args tws own) {index : Nat} (hlink : Cond.methodLink own index Lib.Math.min.name ∈ tws) (hstat : Cond.static Lib.Math.min.name ∈ tws) (hini : Cond.initialized "java/lang/Math" ∈ tws) (hcode : Cond.code Lib.Math.min.name Lib.Math.min.code 2 (some .int) ∈ tws) (hsize : ls.size = nL)
    (hframes : 1 ≤ R.frames) (hlocals : (rest.map fun v => v.category).sum + 13 ≤ R.locals) (hc : cells ≤ R.cells) (hs : slots ≤ R.slots) {a b : Int} (ha : i32 a) (hb : i32 b) (hdg : decode cc pc = .ok (.invokestatic index, 3))
    (kk : W p l e R s m args below meth c H locs cells slots Q (F0 m (pc + 3) ls (.int (iI (min a b)) :: rest))) : W p l e R s m args below meth c H locs cells slots Q (F0 m pc ls (.int (iI b) :: .int (iI a) :: rest)) := by
  refine va_mmin hC.1 hC.2.1 (by rw [hC.2.2.1, hsize]) hC.2.2.2.1 (hC.2.2.2.2 _ hlink) (hC.2.2.2.2 _ hstat) (hC.2.2.2.2 _ hini) (hC.2.2.2.2 _ hcode) hframes hlocals hc hs hdg ?_
  have e : (if iI b < iI a then iI b else iI a) = iI (min a b) := by
    by_cases h : b < a
    · rw [if_pos ((iI_lt hb ha).mpr h), Int.min_eq_right (by omega)]
    · rw [if_neg (fun z => h ((iI_lt hb ha).mp z)), Int.min_eq_left (by omega)]
  rw [e]
  exact kk
end R8

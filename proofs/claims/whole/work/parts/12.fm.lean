abbrev b_fm : ByteArray := prog_11_method_50_code
abbrev y_fm : MethodName := ⟨"java/lang/Math", "floorMod", "(II)I"⟩
theorem d_fm_0 : decode b_fm 0 = .ok (.iload_n 0, 1) := by decide +kernel
theorem d_fm_1 : decode b_fm 1 = .ok (.iload_n 1, 1) := by decide +kernel
theorem d_fm_2 : decode b_fm 2 = .ok (.irem, 1) := by decide +kernel
theorem d_fm_3 : decode b_fm 3 = .ok (.istore_n 2, 1) := by decide +kernel
theorem d_fm_4 : decode b_fm 4 = .ok (.iload_n 0, 1) := by decide +kernel
theorem d_fm_5 : decode b_fm 5 = .ok (.iload_n 1, 1) := by decide +kernel
theorem d_fm_6 : decode b_fm 6 = .ok (.ixor, 1) := by decide +kernel
theorem d_fm_7 : decode b_fm 7 = .ok (.ifCond .ge 11, 3) := by decide +kernel
theorem d_fm_10 : decode b_fm 10 = .ok (.iload_n 2, 1) := by decide +kernel
theorem d_fm_11 : decode b_fm 11 = .ok (.ifCond .eq 7, 3) := by decide +kernel
theorem d_fm_14 : decode b_fm 14 = .ok (.iload_n 2, 1) := by decide +kernel
theorem d_fm_15 : decode b_fm 15 = .ok (.iload_n 1, 1) := by decide +kernel
theorem d_fm_16 : decode b_fm 16 = .ok (.iadd, 1) := by decide +kernel
theorem d_fm_17 : decode b_fm 17 = .ok (.ireturn, 1) := by decide +kernel
theorem d_fm_18 : decode b_fm 18 = .ok (.iload_n 2, 1) := by decide +kernel
theorem d_fm_19 : decode b_fm 19 = .ok (.ireturn, 1) := by decide +kernel
theorem mt_ofF {l : Launch} {y : MethodName} {b : ByteArray} {n : Nat} {ret : Option FieldType} {rm : Room} {As : List Value} {G : Gt} {S : St} {Qc : Array Value → State → Outcome → State → Prop} {mc ms : Nat} {free : Addr → Prop} (hy : plainFor y = true) (hn : (lg_sl As).length ≤ n)
    (body : ∀ (p : Program) (e : Env) (s : State) (m : MethodId) (below : List Frame) (meth : Method) (c : Code) (ls : Array Slot), CallFix p m c b n s As.toArray tws y.cls → meth.sig.returnType = ret → meth.locks = false → wh G S s s.heap [] → lv_has ls n (lv_args 0 As) → W p l e rm s m As.toArray below meth c s.heap [] 0 0 (MQ below Qc As.toArray s mc ms free) (F0 m 0 ls [])) :
    Met l y [.code y b n ret] rm (va_Pc As (fun U => wu G S U)) Qc mc ms free := by
  refine va_MetF (cc := b) (maxL := n) (ret := ret) hy rfl ?_
  intro p e s m args below meth c s₁ B hml hv
  obtain ⟨rfl, hK, hP, hD, ht⟩ := hv
  rw [lg_entry_eq]
  have hts : ∀ w ∈ tws, w.before As.toArray s = true := tw_same (s := s) (U := s) rfl ht
  have hl := lv_entry As (n := n) hn
  exact body p e s m below meth c _ ⟨B.exec, B.bytes, hml, findClass_of_methodNamed B.named, hts⟩ B.returns B.notSynchronized ⟨hK, hP, hD, va_S.rf⟩ hl
theorem iI_remT {a b : Int} (ha : i32 a) (hb : 0 < b) (hb2 : b ≤ 2147483647) : iI a - iI a / iI b * iI b = iI (a.tmod b) := by
  have h1 := Int.tmod_lt_of_pos a hb
  have h2 : -b < a.tmod b := by
    have := Int.lt_tmod_of_pos a hb
    omega
  rw [← Int32.toInt_inj, rem_toInt, iI_toInt ha, iI_toInt ⟨by omega, hb2⟩, iI_toInt ⟨by omega, by omega⟩]
theorem xor_sign (x y : Int32) (hy : 0 ≤ y.toInt) : (0 ≤ x ^^^ y) ↔ 0 ≤ x.toInt := by
  rw [Int32.le_iff_toInt_le]
  have e0 : (0 : Int32).toInt = 0 := by decide +kernel
  rw [e0]
  have h1 : (x ^^^ y).toBitVec = x.toBitVec ^^^ y.toBitVec := by simp
  have h2 : ∀ z : Int32, z.toBitVec.msb = decide (z.toInt < 0) := fun z => BitVec.msb_eq_toInt
  have h3 := h2 (x ^^^ y)
  rw [h1, BitVec.msb_xor, h2 x, h2 y] at h3
  have h4 : decide (y.toInt < 0) = false := by simp; omega
  rw [h4, Bool.xor_false] at h3
  have h5 : (x.toInt < 0) ↔ ((x ^^^ y).toInt < 0) := by
    constructor
    · intro h
      have : decide (x.toInt < 0) = true := by simp [h]
      rw [this] at h3
      simpa using h3.symm
    · intro h
      have : decide ((x ^^^ y).toInt < 0) = true := by simp [h]
      rw [this] at h3
      simpa using h3
  omega
set_option maxHeartbeats 4000000 in
theorem c_fm (l : Launch) (G : Gt) (S : St) (a : Int) (ha : -2000000 ≤ a ∧ a ≤ 2000000) : Met l y_fm [.code y_fm b_fm 3 (some .int)] { frames := 0, cells := 0, slots := 0, locals := 0 } (va_Pc [.int (iI a), .int (iI 1440)] (fun U => wu G S U)) (qR (a % 1440)) 0 0 (fun _ => False) := by
  refine mt_ofF (by decide +kernel) (Nat.le_of_ble_eq_true rfl) ?_
  intro p e s m below meth c ls hC hr hlk hw hl
  have hl : lv_has ls 3 [(0, .int (iI a)), (1, .int (iI 1440))] := hl
  have t1 := Int.tmod_lt_of_pos a (show (0 : Int) < 1440 by decide)
  have t2 := Int.lt_tmod_of_pos a (show (0 : Int) < 1440 by decide)
  have t3 : a % 1440 = if a.tmod 1440 < 0 then a.tmod 1440 + 1440 else a.tmod 1440 := by
    have q1 := Int.mul_tdiv_add_tmod a 1440
    by_cases q : a.tmod 1440 < 0
    · rw [if_pos q]; omega
    · rw [if_neg q]; omega
  refine lv_iload_n hC.1 hC.2.1 d_fm_0 rfl (lv_at hl 0 rfl) ?_
  refine lv_iload_n hC.1 hC.2.1 d_fm_1 rfl (lv_at hl 1 rfl) ?_
  refine lv_irem hC.1 hC.2.1 d_fm_2 (iI_ne0 (by decide) (by decide)) ?_
  rw [iI_remT ⟨by omega, by omega⟩ (by decide) (by decide)]
  have t4 : 0 ≤ a → 0 ≤ a.tmod 1440 := fun h => Int.tmod_nonneg _ h
  have t5 : a < 0 → a.tmod 1440 ≤ 0 := by
    intro h
    have q := Int.tmod_nonneg 1440 (a := -a) (by omega)
    rw [Int.neg_tmod] at q
    omega
  generalize a.tmod 1440 = r at t1 t2 t3 t4 t5
  refine lv_istore_n (lv' := [(2, .int (iI r)), (0, .int (iI a)), (1, .int (iI 1440))]) hC.1 hC.2.1 d_fm_3 rfl hl (by decide) rfl (fun ls hl => ?_)
  refine lv_iload_n hC.1 hC.2.1 d_fm_4 rfl (lv_at hl 1 rfl) ?_
  refine lv_iload_n hC.1 hC.2.1 d_fm_5 rfl (lv_at hl 2 rfl) ?_
  refine lv_ixor hC.1 hC.2.1 d_fm_6 ?_
  have hs := xor_sign (iI a) (iI 1440) (by decide +kernel)
  rw [iI_toInt (z := a) ⟨by omega, by omega⟩] at hs
  refine lv_if_ge (tgt := 18) hC.1 hC.2.1 d_fm_7 (by decide) (fun c1 => ?_) (fun c1 => ?_)
  · have c2 := hs.mp c1
    refine lv_iload_n hC.1 hC.2.1 d_fm_18 rfl (lv_at hl 0 rfl) ?_
    exact rt_R hC hr hlk (by rw [t3, if_neg (by omega)]) d_fm_19
  · have c2 : a < 0 := by
      rcases Int.lt_or_le a 0 with q | q
      · exact q
      · exact absurd (hs.mpr q) c1
    refine lv_iload_n hC.1 hC.2.1 d_fm_10 rfl (lv_at hl 0 rfl) ?_
    refine ir_if_eq (tgt := 18) hC.1 hC.2.1 d_fm_11 (by decide) ⟨by omega, by omega⟩ (fun c3 => ?_) (fun c3 => ?_)
    · refine lv_iload_n hC.1 hC.2.1 d_fm_18 rfl (lv_at hl 0 rfl) ?_
      exact rt_R hC hr hlk (by rw [t3, if_neg (by omega)]) d_fm_19
    · refine lv_iload_n hC.1 hC.2.1 d_fm_14 rfl (lv_at hl 0 rfl) ?_
      refine lv_iload_n hC.1 hC.2.1 d_fm_15 rfl (lv_at hl 2 rfl) ?_
      refine ir_add hC.1 hC.2.1 d_fm_16 ?_
      exact rt_R hC hr hlk (by have := t5 c2; rw [t3, if_pos (by omega)]) d_fm_17
section FMC
variable {p : Program} {R : Room} {s : State} {m : MethodId} {args : Array Value} {c : Code} {cc : ByteArray} {nL mc ms : Nat} {rm : Room}
theorem cv_cr_282 (hC : CallFix p m c cc nL s args tws "ChannelRules") (hrc : rm.cells = mc) (hrs : rm.slots = ms) (hf : rm.frames + 1 ≤ R.frames) (hlo : 8 + (3 + 11) + rm.locals ≤ R.locals) : CallB R s args "ChannelRules" 282 y_fm b_fm 3 (some .int) [.code y_fm b_fm 3 (some .int)] rm mc ms 2 ∧ (Cond.static y_fm).before args s = true := ⟨mkB hC 2 tw_483 tw_11 tw_481 hrc hrs (by decide +kernel) hf hlo, hC.2.2.2.2 _ tw_482⟩
end FMC

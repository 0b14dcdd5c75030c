/-! what the Statement gives at the law's start, in the words of the walk -/
theorem st_ncs {args : Array Value} {s : State} (h : (Cond.not (Cond.castable "java/lang/IllegalStateException" "java/lang/IllegalArgumentException")).before args s = true) : ncs s := by
  intro c t h1 h2
  simp only [Cond.before, Cond.holds, Cond.value, h1, h2] at h
  cases hq : s.vm.assignable c t
  · rfl
  · simp [hq] at h
theorem st_str {args : Array Value} {s : State} {k : Nat} {tx : String} (h1 : (Cond.stringRef "ChannelRules" k tx).before args s = true) (h2 : (Cond.exactly (.string "ChannelRules" k) "java/lang/String").before args s = true) : ∃ q, vk_R "ChannelRules" k tx q s := by
  obtain ⟨a, c, cell, kk, ht, -⟩ := Cond.exactly_spec h2
  exact ⟨a, vk_R.of h1 ht⟩
set_option maxRecDepth 100000 in
set_option maxHeartbeats 4000000 in
theorem st_exw {args : Array Value} {s : State} (hts : ∀ w ∈ lw_tbl, w.before args s = true) (hF : ∀ w ∈ flatC (Jvm.Cond.and given_1 narrow_1), w.before args s = true) : exw txs s := by
  refine ⟨fun w hw => ?_, fun k hk => ?_⟩
  · simp only [exl, List.mem_cons, List.not_mem_nil, or_false] at hw
    rcases hw with rfl | rfl | rfl | rfl
    · exact hts _ tx_283
    · exact hts _ tx_285
    · exact hF (Cond.isRef (Term.static "java/lang/Throwable" "UNASSIGNED_STACK" "[Ljava/lang/StackTraceElement;")) (by decide +kernel)
    · exact hF (Cond.isRef (Term.static "java/lang/Throwable" "SUPPRESSED_SENTINEL" "Ljava/util/List;")) (by decide +kernel)
  · simp only [txs, List.mem_cons, List.not_mem_nil, or_false] at hk
    rcases hk with rfl | rfl | rfl | rfl | rfl | rfl | rfl | rfl | rfl | rfl | rfl | rfl | rfl
    · exact st_str (hts _ tx_297) (hF _ (by decide +kernel))
    · exact st_str (hts _ tx_324) (hF _ (by decide +kernel))
    · exact st_str (hts _ tx_334) (hF _ (by decide +kernel))
    · exact st_str (hts _ tx_353) (hF _ (by decide +kernel))
    · exact st_str (hts _ tx_354) (hF _ (by decide +kernel))
    · exact st_str (hts _ tx_375) (hF _ (by decide +kernel))
    · exact st_str (hts _ tx_423) (hF _ (by decide +kernel))
    · exact st_str (hts _ tx_424) (hF _ (by decide +kernel))
    · exact st_str (hts _ tx_500) (hF _ (by decide +kernel))
    · exact st_str (hts _ tx_508) (hF _ (by decide +kernel))
    · exact st_str (hts _ tx_509) (hF _ (by decide +kernel))
    · exact st_str (hts _ tx_525) (hF _ (by decide +kernel))
    · exact st_str (hts _ tx_543) (hF _ (by decide +kernel))
set_option maxRecDepth 100000 in
set_option maxHeartbeats 4000000 in
theorem st_gvt {args : Array Value} {s : State} {G : Gt} (hG : G.2.2.2 = s.heap.size) (hts : ∀ w ∈ lw_tbl, w.before args s = true) (hF : ∀ w ∈ flatC (Jvm.Cond.and given_1 narrow_1), w.before args s = true) : gvt G s := by
  have hA : ∀ a : Nat, a < s.heap.size → ¬ gA G a := fun a ha => by show ¬ G.2.2.2 ≤ a; omega
  have e0 : gvF 0 = Value.int 2 := congrArg Value.int (by decide +kernel)
  have e1 : gvF 1 = Value.int 2 := congrArg Value.int (by decide +kernel)
  have e2 : gvF 2 = Value.int 100 := congrArg Value.int (by decide +kernel)
  have e3 : gvF 3 = Value.int 1 := congrArg Value.int (by decide +kernel)
  have e4 : gvF 4 = Value.int 1 := congrArg Value.int (by decide +kernel)
  have z0 := va_eqt (hF (Cond.eq (Term.elem (Term.static "ChannelRules" "GREATEST_V" "[I") (Term.int 0)) (Term.int 2)) (by decide +kernel))
  have z1 := va_eqt (hF (Cond.eq (Term.elem (Term.static "ChannelRules" "GREATEST_V" "[I") (Term.int 1)) (Term.int 2)) (by decide +kernel))
  have z2 := va_eqt (hF (Cond.eq (Term.elem (Term.static "ChannelRules" "GREATEST_V" "[I") (Term.int 2)) (Term.int 100)) (by decide +kernel))
  have z3 := va_eqt (hF (Cond.eq (Term.elem (Term.static "ChannelRules" "GREATEST_V" "[I") (Term.int 3)) (Term.int 1)) (by decide +kernel))
  have z4 := va_eqt (hF (Cond.eq (Term.elem (Term.static "ChannelRules" "GREATEST_V" "[I") (Term.int 4)) (Term.int 1)) (by decide +kernel))
  have zl := va_eqt (hF (Cond.eq (Term.length (Term.static "ChannelRules" "GREATEST_V" "[I")) (Term.int 5)) (by decide +kernel))
  obtain ⟨t, ht, hT⟩ := va_Tof (tm := Term.static "ChannelRules" "GREATEST_V" "[I") (ty := .int) (N := 5) (f := gvF) (A := gA G) (by decide) (hF (Cond.arrayOf (Term.static "ChannelRules" "GREATEST_V" "[I") .int) (by decide +kernel)) zl (fun j hj => by
    rcases (show j = 0 ∨ j = 1 ∨ j = 2 ∨ j = 3 ∨ j = 4 by omega) with rfl | rfl | rfl | rfl | rfl
    · rw [e0]; exact z0
    · rw [e1]; exact z1
    · rw [e2]; exact z2
    · rw [e3]; exact z3
    · rw [e4]; exact z4) hA
  exact ⟨t, va_Zref (hts _ tx_160) (hts _ (List.mem_filter.mp tw_1).1) ht hA, hT⟩
/-- the classes and array classes, out of the tables -/
theorem st_known {args : Array Value} {s : State} (hts : ∀ w ∈ tws, w.before args s = true) : ∃ (D : va_G) (acl : Nat → ClassId), va_K D cls_all [(acl 0, .int), (acl 1, .boolean), (acl 2, .long)] s := by
  obtain ⟨c0, i0, k0⟩ := u_known (n := 9) hts in_ps (hts _ tw_86)
  obtain ⟨c1, i1, k1⟩ := u_known (n := 9) hts in_pc (hts _ tw_22)
  obtain ⟨c2, i2, k2⟩ := u_known (n := 4) hts in_sh (hts _ tw_63)
  obtain ⟨c3, i3, k3⟩ := u_known (n := 7) hts in_cr (hts _ tw_14)
  obtain ⟨c4, i4, k4⟩ := u_known (n := 24) hts in_md (hts _ tw_551)
  obtain ⟨aI, kI, mI, a1, a2, a3⟩ := Cond.arrayClass_spec (hts _ tw_61)
  obtain ⟨aB, kB, mB, b1, b2, b3⟩ := Cond.arrayClass_spec (hts _ tw_124)
  obtain ⟨aL, kL, mL, l1, l2, l3⟩ := Cond.arrayClass_spec (hts _ tw_768)
  refine ⟨(fun k => match k with | 0 => c0 | 1 => c1 | 2 => c2 | 3 => c3 | _ => c4, fun k => match k with | 0 => i0 | 1 => i1 | 2 => i2 | 3 => i3 | _ => i4), fun k => match k with | 0 => aI | 1 => aB | _ => aL, fun c q hq => ?_, fun k q hq => ?_⟩
  · have hl : c < 5 := (List.getElem?_eq_some_iff.mp hq).1
    rcases (show c = 0 ∨ c = 1 ∨ c = 2 ∨ c = 3 ∨ c = 4 by omega) with rfl | rfl | rfl | rfl | rfl
    · cases hq; exact k0
    · cases hq; exact k1
    · cases hq; exact k2
    · cases hq; exact k3
    · cases hq; exact k4
  · have hl : k < 3 := (List.getElem?_eq_some_iff.mp hq).1
    rcases (show k = 0 ∨ k = 1 ∨ k = 2 by omega) with rfl | rfl | rfl
    · cases hq; exact ⟨fun n z => ⟨fun k h => (by cases h), kI, a2, mI, a3⟩, a1⟩
    · cases hq; exact ⟨fun n z => ⟨fun k h => (by cases h), kB, b2, mB, b3⟩, b1⟩
    · cases hq; exact ⟨fun n z => ⟨fun k h => (by cases h), kL, l2, mL, l3⟩, l1⟩

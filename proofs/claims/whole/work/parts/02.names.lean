/-- the words that stay, whatever is linked on the way -/
def twk : Cond → Bool
  | .arrayClass _ => true
  | .methodLinkNest .. => true
  | .declares _ => true
  | .privateMethod _ => true
  | .castable .. => true
  | w => w.onTables && w.keeps
def tws : List Cond := lw_tbl.filter twk
theorem tb_0 {w : Cond} (h : w ∈ k2_sels lw_privs) (g : twk w = true) : w ∈ tws := List.mem_filter.mpr ⟨List.mem_append_left _ h, g⟩
theorem tb_1 {w : Cond} (h : w ∈ tables_1_1) (g : twk w = true) : w ∈ tws := List.mem_filter.mpr ⟨List.mem_append_right _ (List.mem_append_left _ h), g⟩
theorem tb_2 {w : Cond} (h : w ∈ tables_1_2) (g : twk w = true) : w ∈ tws := List.mem_filter.mpr ⟨List.mem_append_right _ (List.mem_append_right _ (List.mem_append_left _ h)), g⟩
theorem tb_3 {w : Cond} (h : w ∈ tables_1_3) (g : twk w = true) : w ∈ tws := List.mem_filter.mpr ⟨List.mem_append_right _ (List.mem_append_right _ (List.mem_append_right _ (List.mem_append_left _ h))), g⟩
theorem tb_4 {w : Cond} (h : w ∈ tables_1_4) (g : twk w = true) : w ∈ tws := List.mem_filter.mpr ⟨List.mem_append_right _ (List.mem_append_right _ (List.mem_append_right _ (List.mem_append_right _ h))), g⟩
theorem tw_word {args args' : Array Value} {s U : State} (hW : s.WarmedH U.vm) {w : Cond} (hk : twk w = true) (h : w.before args s = true) : w.before args' U = true := by
  by_cases hg : goodWord w = true
  · exact word_at hW (good_of_word hg) h
  · have face : ∀ c : Cond, c.keepsFace = true → c.onTables = true → c.before args s = true → c.before args' U = true := by
      intro c h1 h2 h3
      have h4 := Cond.before_shiftedFace (State.Shifted.of_warmed hW) c h1 h3
      have h5 := Cond.onTables_vm (A := args) (A' := args') (U := s) (U' := U) U.vm c h2
      rw [State.setVm_self] at h5
      rw [← h5]
      exact h4
    cases w with
    | arrayClass ty => exact word_at hW (Or.inr ⟨ty, rfl⟩) h
    | methodLinkNest a i x hh => exact va_Nw.use rfl (va_Nw.warmM hW (va_Nw.of rfl h))
    | declares x => exact face _ rfl rfl h
    | privateMethod x => exact face _ rfl rfl h
    | castable a b => exact face _ rfl rfl h
    | _ => exact absurd hk hg
theorem tw_warm {args args' : Array Value} {s U : State} (hW : s.WarmedH U.vm) (h : ∀ w ∈ tws, w.before args s = true) : ∀ w ∈ tws, w.before args' U = true := fun w hw => tw_word hW (List.mem_filter.mp hw).2 (h w hw)
theorem tw_same {args args' : Array Value} {s U : State} (hv : U.vm = s.vm) (h : ∀ w ∈ tws, w.before args s = true) : ∀ w ∈ tws, w.before args' U = true := by
  intro w hw
  have h1 := h w hw
  have hk := (List.mem_filter.mp hw).2
  have key : ∀ c : Cond, c.onTables = true → c.before args s = true → c.before args' U = true := by
    intro c h2 h3
    have h5 := Cond.onTables_vm (A := args) (A' := args') (U := s) (U' := U) s.vm c h2
    rw [State.setVm_self] at h5
    rw [← hv, State.setVm_self] at h5
    rw [← h5]
    exact h3
  by_cases hg : w.onTables = true
  · exact key w hg h1
  · cases w with
    | arrayClass ty =>
      simp only [Cond.before, Cond.holds, Cond.value] at h1 ⊢
      rw [hv]
      exact h1
    | _ => first | exact absurd rfl hg | (simp [twk, hg] at hk; done) | (exfalso; apply hg; simp [twk] at hk; exact hk.1)

def R_ps : String := "ChannelRules$Passages"
def T_ps : u_T := fun k => match k with
  | 0 => ("ChannelRules$Passages", "slots", "I", false)
  | 1 => ("ChannelRules$Passages", "given", "[Z", true)
  | 2 => ("ChannelRules$Passages", "ship", "[I", true)
  | 3 => ("ChannelRules$Passages", "begin", "[I", true)
  | 4 => ("ChannelRules$Passages", "stays", "[I", true)
  | 5 => ("ChannelRules$Passages", "pieceOfStay", "[I", true)
  | 6 => ("ChannelRules$Passages", "forward", "[Z", true)
  | 7 => ("ChannelRules$Passages", "offset", "[I", true)
  | _ => ("ChannelRules$Passages", "stayMark", "[I", true)
def ty_ps : Nat → FieldType := fun k => match k with
  | 0 => .int
  | 1 => .array .boolean
  | 2 => .array .int
  | 3 => .array .int
  | 4 => .array .int
  | 5 => .array .int
  | 6 => .array .boolean
  | 7 => .array .int
  | _ => .array .int
theorem nm_ps : ∀ a, a < 9 → ∀ b, b < 9 → a ≠ b → (T_ps a).2.1 ≠ (T_ps b).2.1 := by decide +kernel
theorem ty_ps_ok : ∀ k, k < 9 → parseFieldDescriptor (T_ps k).2.2.1 = some (ty_ps k) := by decide +kernel
set_option maxRecDepth 20000 in
theorem inl_ps : ∀ w ∈ u_ws R_ps T_ps 9, w ∈ lw_tbl := by decide +kernel
theorem in_ps : ∀ w ∈ u_ws R_ps T_ps 9, w ∈ tws := fun w h => List.mem_filter.mpr ⟨inl_ps w h, List.all_eq_true.mp (show (u_ws R_ps T_ps 9).all twk = true by decide +kernel) w h⟩
def R_pc : String := "ChannelRules$Pieces"
def T_pc : u_T := fun k => match k with
  | 0 => ("ChannelRules$Pieces", "made", "I", false)
  | 1 => ("ChannelRules$Pieces", "first", "[I", true)
  | 2 => ("ChannelRules$Pieces", "second", "[I", true)
  | 3 => ("ChannelRules$Pieces", "length", "[I", true)
  | 4 => ("ChannelRules$Pieces", "width", "[I", true)
  | 5 => ("ChannelRules$Pieces", "rules", "[I", true)
  | 6 => ("ChannelRules$Pieces", "spans", "[I", true)
  | 7 => ("ChannelRules$Pieces", "spanFrom", "[I", true)
  | _ => ("ChannelRules$Pieces", "spanTo", "[I", true)
def ty_pc : Nat → FieldType := fun k => match k with
  | 0 => .int
  | 1 => .array .int
  | 2 => .array .int
  | 3 => .array .int
  | 4 => .array .int
  | 5 => .array .int
  | 6 => .array .int
  | 7 => .array .int
  | _ => .array .int
theorem nm_pc : ∀ a, a < 9 → ∀ b, b < 9 → a ≠ b → (T_pc a).2.1 ≠ (T_pc b).2.1 := by decide +kernel
theorem ty_pc_ok : ∀ k, k < 9 → parseFieldDescriptor (T_pc k).2.2.1 = some (ty_pc k) := by decide +kernel
set_option maxRecDepth 20000 in
theorem inl_pc : ∀ w ∈ u_ws R_pc T_pc 9, w ∈ lw_tbl := by decide +kernel
theorem in_pc : ∀ w ∈ u_ws R_pc T_pc 9, w ∈ tws := fun w h => List.mem_filter.mpr ⟨inl_pc w h, List.all_eq_true.mp (show (u_ws R_pc T_pc 9).all twk = true by decide +kernel) w h⟩
def R_sh : String := "ChannelRules$Ships"
def T_sh : u_T := fun k => match k with
  | 0 => ("ChannelRules$Ships", "made", "I", false)
  | 1 => ("ChannelRules$Ships", "width", "[I", true)
  | 2 => ("ChannelRules$Ships", "speed", "[I", true)
  | _ => ("ChannelRules$Ships", "cls", "[I", true)
def ty_sh : Nat → FieldType := fun k => match k with
  | 0 => .int
  | 1 => .array .int
  | 2 => .array .int
  | _ => .array .int
theorem nm_sh : ∀ a, a < 4 → ∀ b, b < 4 → a ≠ b → (T_sh a).2.1 ≠ (T_sh b).2.1 := by decide +kernel
theorem ty_sh_ok : ∀ k, k < 4 → parseFieldDescriptor (T_sh k).2.2.1 = some (ty_sh k) := by decide +kernel
set_option maxRecDepth 20000 in
theorem inl_sh : ∀ w ∈ u_ws R_sh T_sh 4, w ∈ lw_tbl := by decide +kernel
theorem in_sh : ∀ w ∈ u_ws R_sh T_sh 4, w ∈ tws := fun w h => List.mem_filter.mpr ⟨inl_sh w h, List.all_eq_true.mp (show (u_ws R_sh T_sh 4).all twk = true by decide +kernel) w h⟩
def R_cr : String := "ChannelRules"
def T_cr : u_T := fun k => match k with
  | 0 => ("ChannelRules", "pieces", "LChannelRules$Pieces;", true)
  | 1 => ("ChannelRules", "ships", "LChannelRules$Ships;", true)
  | 2 => ("ChannelRules", "passages", "LChannelRules$Passages;", true)
  | 3 => ("ChannelRules", "timeLeft", "[I", true)
  | 4 => ("ChannelRules", "foundConflict", "[I", true)
  | 5 => ("ChannelRules", "windy", "Z", false)
  | _ => ("ChannelRules", "now", "I", false)
def ty_cr : Nat → FieldType := fun k => match k with
  | 0 => .object "ChannelRules$Pieces"
  | 1 => .object "ChannelRules$Ships"
  | 2 => .object "ChannelRules$Passages"
  | 3 => .array .int
  | 4 => .array .int
  | 5 => .boolean
  | _ => .int
theorem nm_cr : ∀ a, a < 7 → ∀ b, b < 7 → a ≠ b → (T_cr a).2.1 ≠ (T_cr b).2.1 := by decide +kernel
theorem ty_cr_ok : ∀ k, k < 7 → parseFieldDescriptor (T_cr k).2.2.1 = some (ty_cr k) := by decide +kernel
set_option maxRecDepth 20000 in
theorem inl_cr : ∀ w ∈ u_ws R_cr T_cr 7, w ∈ lw_tbl := by decide +kernel
theorem in_cr : ∀ w ∈ u_ws R_cr T_cr 7, w ∈ tws := fun w h => List.mem_filter.mpr ⟨inl_cr w h, List.all_eq_true.mp (show (u_ws R_cr T_cr 7).all twk = true by decide +kernel) w h⟩
def R_md : String := "ChannelRulesModel"
def T_md : u_T := fun k => match k with
  | 0 => ("ChannelRulesModel", "thrown", "I", false)
  | 1 => ("ChannelRulesModel", "pieces", "I", false)
  | 2 => ("ChannelRulesModel", "first", "[I", true)
  | 3 => ("ChannelRulesModel", "second", "[I", true)
  | 4 => ("ChannelRulesModel", "length", "[I", true)
  | 5 => ("ChannelRulesModel", "wide", "[I", true)
  | 6 => ("ChannelRulesModel", "rules", "[I", true)
  | 7 => ("ChannelRulesModel", "spans", "[I", true)
  | 8 => ("ChannelRulesModel", "spanFrom", "[I", true)
  | 9 => ("ChannelRulesModel", "spanTo", "[I", true)
  | 10 => ("ChannelRulesModel", "ships", "I", false)
  | 11 => ("ChannelRulesModel", "width", "[I", true)
  | 12 => ("ChannelRulesModel", "speed", "[I", true)
  | 13 => ("ChannelRulesModel", "cls", "[I", true)
  | 14 => ("ChannelRulesModel", "wind", "Z", false)
  | 15 => ("ChannelRulesModel", "now", "I", false)
  | 16 => ("ChannelRulesModel", "slots", "I", false)
  | 17 => ("ChannelRulesModel", "slotShip", "[I", true)
  | 18 => ("ChannelRulesModel", "begins", "[I", true)
  | 19 => ("ChannelRulesModel", "given", "[Z", true)
  | 20 => ("ChannelRulesModel", "stays", "[I", true)
  | 21 => ("ChannelRulesModel", "stayPiece", "[I", true)
  | 22 => ("ChannelRulesModel", "stayForward", "[I", true)
  | _ => ("ChannelRulesModel", "far", "[I", true)
def ty_md : Nat → FieldType := fun k => match k with
  | 0 => .int
  | 1 => .int
  | 2 => .array .int
  | 3 => .array .int
  | 4 => .array .int
  | 5 => .array .int
  | 6 => .array .int
  | 7 => .array .int
  | 8 => .array .int
  | 9 => .array .int
  | 10 => .int
  | 11 => .array .int
  | 12 => .array .int
  | 13 => .array .int
  | 14 => .boolean
  | 15 => .int
  | 16 => .int
  | 17 => .array .int
  | 18 => .array .int
  | 19 => .array .boolean
  | 20 => .array .int
  | 21 => .array .int
  | 22 => .array .int
  | _ => .array .int
theorem nm_md : ∀ a, a < 24 → ∀ b, b < 24 → a ≠ b → (T_md a).2.1 ≠ (T_md b).2.1 := by decide +kernel
theorem ty_md_ok : ∀ k, k < 24 → parseFieldDescriptor (T_md k).2.2.1 = some (ty_md k) := by decide +kernel
set_option maxRecDepth 20000 in
theorem inl_md : ∀ w ∈ u_ws R_md T_md 24, w ∈ lw_tbl := by decide +kernel
theorem in_md : ∀ w ∈ u_ws R_md T_md 24, w ∈ tws := fun w h => List.mem_filter.mpr ⟨inl_md w h, List.all_eq_true.mp (show (u_ws R_md T_md 24).all twk = true by decide +kernel) w h⟩
abbrev cls_all : List vw_C := [(R_ps, T_ps, 9), (R_pc, T_pc, 9), (R_sh, T_sh, 4), (R_cr, T_cr, 7), (R_md, T_md, 24)]
def R_lw : String := "ChannelRulesLaw"
abbrev b_cr_init : ByteArray := prog_1_method_1_code
abbrev y_cr_init : MethodName := ⟨"ChannelRules", "<init>", "()V"⟩
abbrev b_pc_init : ByteArray := prog_3_method_1_code
abbrev y_pc_init : MethodName := ⟨"ChannelRules$Pieces", "<init>", "()V"⟩
abbrev b_sh_init : ByteArray := prog_4_method_1_code
abbrev y_sh_init : MethodName := ⟨"ChannelRules$Ships", "<init>", "()V"⟩
abbrev b_ps_init : ByteArray := prog_2_method_1_code
abbrev y_ps_init : MethodName := ⟨"ChannelRules$Passages", "<init>", "()V"⟩
abbrev b_cr_rule : ByteArray := prog_1_method_3_code
abbrev y_cr_rule : MethodName := ⟨"ChannelRules", "rule", "(III)Z"⟩
abbrev b_pc_has : ByteArray := prog_3_method_2_code
abbrev y_pc_has : MethodName := ⟨"ChannelRules$Pieces", "has", "(I)Z"⟩
abbrev b_cr_isWithin : ByteArray := prog_1_method_17_code
abbrev y_cr_isWithin : MethodName := ⟨"ChannelRules", "isWithin", "(III)Z"⟩
abbrev b_pc_setRule : ByteArray := prog_3_method_6_code
abbrev y_pc_setRule : MethodName := ⟨"ChannelRules$Pieces", "setRule", "(III)V"⟩
abbrev b_cr_wind : ByteArray := prog_1_method_4_code
abbrev y_cr_wind : MethodName := ⟨"ChannelRules", "wind", "(Z)Z"⟩
abbrev b_cr_back : ByteArray := prog_1_method_10_code
abbrev y_cr_back : MethodName := ⟨"ChannelRules", "back", "(I)Z"⟩
abbrev b_ps_hasSlot : ByteArray := prog_2_method_2_code
abbrev y_ps_hasSlot : MethodName := ⟨"ChannelRules$Passages", "hasSlot", "(I)Z"⟩
abbrev b_cr_isStillToBegin : ByteArray := prog_1_method_20_code
abbrev y_cr_isStillToBegin : MethodName := ⟨"ChannelRules", "isStillToBegin", "(I)Z"⟩
abbrev b_cr_tick : ByteArray := prog_1_method_12_code
abbrev y_cr_tick : MethodName := ⟨"ChannelRules", "tick", "(I)Z"⟩
abbrev b_cr_count : ByteArray := prog_1_method_15_code
abbrev y_cr_count : MethodName := ⟨"ChannelRules", "count", "(I)I"⟩
abbrev b_ps_givenSlots : ByteArray := prog_2_method_3_code
abbrev y_ps_givenSlots : MethodName := ⟨"ChannelRules$Passages", "givenSlots", "()I"⟩
abbrev b_cr_seekConflict : ByteArray := prog_1_method_41_code
abbrev y_cr_seekConflict : MethodName := ⟨"ChannelRules", "seekConflict", "(I)I"⟩
abbrev b_cr_seekConflictOfPair : ByteArray := prog_1_method_42_code
abbrev y_cr_seekConflictOfPair : MethodName := ⟨"ChannelRules", "seekConflictOfPair", "(IIII)I"⟩
abbrev b_cr_conflictWith : ByteArray := prog_1_method_34_code
abbrev y_cr_conflictWith : MethodName := ⟨"ChannelRules", "conflictWith", "(III)I"⟩
abbrev b_ps_pieceOf : ByteArray := prog_2_method_4_code
abbrev y_ps_pieceOf : MethodName := ⟨"ChannelRules$Passages", "pieceOf", "(II)I"⟩
abbrev b_ps_stayOn : ByteArray := prog_2_method_8_code
abbrev y_ps_stayOn : MethodName := ⟨"ChannelRules$Passages", "stayOn", "(II)I"⟩
abbrev b_ps_entersAt : ByteArray := prog_2_method_6_code
abbrev y_ps_entersAt : MethodName := ⟨"ChannelRules$Passages", "entersAt", "(II)I"⟩
abbrev b_ps_leavesAt : ByteArray := prog_2_method_7_code
abbrev y_ps_leavesAt : MethodName := ⟨"ChannelRules$Passages", "leavesAt", "(II)I"⟩
abbrev b_cr_shareMinute : ByteArray := prog_1_method_21_code
abbrev y_cr_shareMinute : MethodName := ⟨"ChannelRules", "shareMinute", "(IIII)Z"⟩
abbrev b_ps_isForward : ByteArray := prog_2_method_5_code
abbrev y_ps_isForward : MethodName := ⟨"ChannelRules$Passages", "isForward", "(II)Z"⟩
abbrev b_pc_ruleOf : ByteArray := prog_3_method_5_code
abbrev y_pc_ruleOf : MethodName := ⟨"ChannelRules$Pieces", "ruleOf", "(II)I"⟩
abbrev b_ps_isOvertaking : ByteArray := prog_2_method_9_code
abbrev y_ps_isOvertaking : MethodName := ⟨"ChannelRules$Passages", "isOvertaking", "(IIII)Z"⟩
abbrev b_cr_givenMark : ByteArray := prog_1_method_16_code
abbrev y_cr_givenMark : MethodName := ⟨"ChannelRules", "givenMark", "(I)I"⟩
abbrev b_lw_piece : ByteArray := method_3_code
abbrev y_lw_piece : MethodName := ⟨"ChannelRulesLaw", "piece", "(LChannelRules;IIII[J)I"⟩
abbrev b_cr_piece : ByteArray := prog_1_method_2_code
abbrev y_cr_piece : MethodName := ⟨"ChannelRules", "piece", "(IIII)I"⟩
abbrev b_cr_isPoint : ByteArray := prog_1_method_18_code
abbrev y_cr_isPoint : MethodName := ⟨"ChannelRules", "isPoint", "(I)Z"⟩
abbrev b_pc_add : ByteArray := prog_3_method_3_code
abbrev y_pc_add : MethodName := ⟨"ChannelRules$Pieces", "add", "(IIII)I"⟩
abbrev b_lw_ship : ByteArray := method_4_code
abbrev y_lw_ship : MethodName := ⟨"ChannelRulesLaw", "ship", "(LChannelRules;III[J)I"⟩
abbrev b_cr_ship : ByteArray := prog_1_method_5_code
abbrev y_cr_ship : MethodName := ⟨"ChannelRules", "ship", "(III)I"⟩
abbrev b_sh_add : ByteArray := prog_4_method_3_code
abbrev y_sh_add : MethodName := ⟨"ChannelRules$Ships", "add", "(III)I"⟩
abbrev b_lw_route : ByteArray := method_5_code
abbrev y_lw_route : MethodName := ⟨"ChannelRulesLaw", "route", "(LChannelRules;IIII[J)I"⟩
abbrev b_cr_route : ByteArray := prog_1_method_6_code
abbrev y_cr_route : MethodName := ⟨"ChannelRules", "route", "(IIII)I"⟩
abbrev b_cr_isVoyage : ByteArray := prog_1_method_19_code
abbrev y_cr_isVoyage : MethodName := ⟨"ChannelRules", "isVoyage", "(III)Z"⟩
abbrev b_sh_has : ByteArray := prog_4_method_2_code
abbrev y_sh_has : MethodName := ⟨"ChannelRules$Ships", "has", "(I)Z"⟩
abbrev b_cr_planRoute : ByteArray := prog_1_method_22_code
abbrev y_cr_planRoute : MethodName := ⟨"ChannelRules", "planRoute", "(III)Z"⟩
abbrev b_ps_startPlan : ByteArray := prog_2_method_10_code
abbrev y_ps_startPlan : MethodName := ⟨"ChannelRules$Passages", "startPlan", "(I)V"⟩
abbrev b_cr_measureTimeLeft : ByteArray := prog_1_method_23_code
abbrev y_cr_measureTimeLeft : MethodName := ⟨"ChannelRules", "measureTimeLeft", "(II)V"⟩
abbrev b_cr_fits : ByteArray := prog_1_method_26_code
abbrev y_cr_fits : MethodName := ⟨"ChannelRules", "fits", "(II)Z"⟩
abbrev b_cr_travelTime : ByteArray := prog_1_method_27_code
abbrev y_cr_travelTime : MethodName := ⟨"ChannelRules", "travelTime", "(II)I"⟩
abbrev b_cr_shortenBy : ByteArray := prog_1_method_24_code
abbrev y_cr_shortenBy : MethodName := ⟨"ChannelRules", "shortenBy", "(II)V"⟩
abbrev b_cr_nextPiece : ByteArray := prog_1_method_25_code
abbrev y_cr_nextPiece : MethodName := ⟨"ChannelRules", "nextPiece", "(II)I"⟩
abbrev b_pc_otherEnd : ByteArray := prog_3_method_4_code
abbrev y_pc_otherEnd : MethodName := ⟨"ChannelRules$Pieces", "otherEnd", "(II)I"⟩
abbrev b_ps_addStay : ByteArray := prog_2_method_11_code
abbrev y_ps_addStay : MethodName := ⟨"ChannelRules$Passages", "addStay", "(IZI)V"⟩
abbrev b_lw_ask : ByteArray := method_6_code
abbrev y_lw_ask : MethodName := ⟨"ChannelRulesLaw", "ask", "(LChannelRules;IIII[J)I"⟩
abbrev b_cr_ask : ByteArray := prog_1_method_7_code
abbrev y_cr_ask : MethodName := ⟨"ChannelRules", "ask", "(IIII)I"⟩
abbrev b_cr_firstBar : ByteArray := prog_1_method_28_code
abbrev y_cr_firstBar : MethodName := ⟨"ChannelRules", "firstBar", "(I)I"⟩
abbrev b_cr_barByPiece : ByteArray := prog_1_method_29_code
abbrev y_cr_barByPiece : MethodName := ⟨"ChannelRules", "barByPiece", "(II)I"⟩
abbrev b_cr_isAgainstOneWay : ByteArray := prog_1_method_30_code
abbrev y_cr_isAgainstOneWay : MethodName := ⟨"ChannelRules", "isAgainstOneWay", "(II)Z"⟩
abbrev b_cr_isBarredAtNight : ByteArray := prog_1_method_31_code
abbrev y_cr_isBarredAtNight : MethodName := ⟨"ChannelRules", "isBarredAtNight", "(II)Z"⟩
abbrev b_cr_isBarredInWind : ByteArray := prog_1_method_32_code
abbrev y_cr_isBarredInWind : MethodName := ⟨"ChannelRules", "isBarredInWind", "(II)Z"⟩
abbrev b_pc_closedFor : ByteArray := prog_3_method_8_code
abbrev y_pc_closedFor : MethodName := ⟨"ChannelRules$Pieces", "closedFor", "(III)I"⟩
abbrev b_cr_barBySlots : ByteArray := prog_1_method_33_code
abbrev y_cr_barBySlots : MethodName := ⟨"ChannelRules", "barBySlots", "(II)I"⟩
abbrev b_ps_giveSlot : ByteArray := prog_2_method_12_code
abbrev y_ps_giveSlot : MethodName := ⟨"ChannelRules$Passages", "giveSlot", "()I"⟩
abbrev b_lw_earliest : ByteArray := method_7_code
abbrev y_lw_earliest : MethodName := ⟨"ChannelRulesLaw", "earliest", "(LChannelRules;IIII[J)I"⟩
abbrev b_cr_earliest : ByteArray := prog_1_method_8_code
abbrev y_cr_earliest : MethodName := ⟨"ChannelRules", "earliest", "(IIII)I"⟩
abbrev b_cr_planWait : ByteArray := prog_1_method_35_code
abbrev y_cr_planWait : MethodName := ⟨"ChannelRules", "planWait", "()I"⟩
abbrev b_cr_planWaitByPiece : ByteArray := prog_1_method_36_code
abbrev y_cr_planWaitByPiece : MethodName := ⟨"ChannelRules", "planWaitByPiece", "(I)I"⟩
abbrev b_cr_minutesToMorning : ByteArray := prog_1_method_37_code
abbrev y_cr_minutesToMorning : MethodName := ⟨"ChannelRules", "minutesToMorning", "(I)I"⟩
abbrev b_cr_planWaitBySlots : ByteArray := prog_1_method_38_code
abbrev y_cr_planWaitBySlots : MethodName := ⟨"ChannelRules", "planWaitBySlots", "(I)I"⟩
abbrev b_cr_planWaitFor : ByteArray := prog_1_method_39_code
abbrev y_cr_planWaitFor : MethodName := ⟨"ChannelRules", "planWaitFor", "(II)I"⟩
abbrev b_lw_change : ByteArray := method_8_code
abbrev y_lw_change : MethodName := ⟨"ChannelRulesLaw", "change", "(LChannelRules;II[J)I"⟩
abbrev b_cr_change : ByteArray := prog_1_method_9_code
abbrev y_cr_change : MethodName := ⟨"ChannelRules", "change", "(II)I"⟩
abbrev b_lw_close : ByteArray := method_9_code
abbrev y_lw_close : MethodName := ⟨"ChannelRulesLaw", "close", "(LChannelRules;III[J)I"⟩
abbrev b_cr_close : ByteArray := prog_1_method_11_code
abbrev y_cr_close : MethodName := ⟨"ChannelRules", "close", "(III)I"⟩
abbrev b_pc_addSpan : ByteArray := prog_3_method_7_code
abbrev y_pc_addSpan : MethodName := ⟨"ChannelRules$Pieces", "addSpan", "(III)V"⟩
abbrev b_cr_endSlotsOn : ByteArray := prog_1_method_40_code
abbrev y_cr_endSlotsOn : MethodName := ⟨"ChannelRules", "endSlotsOn", "(III)I"⟩
abbrev b_lw_conflict : ByteArray := method_10_code
abbrev y_lw_conflict : MethodName := ⟨"ChannelRulesLaw", "conflict", "(LChannelRules;II[J)I"⟩
abbrev b_cr_conflict : ByteArray := prog_1_method_13_code
abbrev y_cr_conflict : MethodName := ⟨"ChannelRules", "conflict", "(II)I"⟩
abbrev b_lw_at : ByteArray := method_11_code
abbrev y_lw_at : MethodName := ⟨"ChannelRulesLaw", "at", "(LChannelRules;III[J)I"⟩
abbrev b_cr_at : ByteArray := prog_1_method_14_code
abbrev y_cr_at : MethodName := ⟨"ChannelRules", "at", "(III)I"⟩
abbrev b_md_init : ByteArray := prog_6_method_1_code
abbrev y_md_init : MethodName := ⟨"ChannelRulesModel", "<init>", "()V"⟩
abbrev b_md_thrown : ByteArray := prog_6_method_2_code
abbrev y_md_thrown : MethodName := ⟨"ChannelRulesModel", "thrown", "()I"⟩
abbrev b_md_piece : ByteArray := prog_6_method_10_code
abbrev y_md_piece : MethodName := ⟨"ChannelRulesModel", "piece", "(IIII)I"⟩
abbrev b_md_isPoint : ByteArray := prog_6_method_5_code
abbrev y_md_isPoint : MethodName := ⟨"ChannelRulesModel", "isPoint", "(I)Z"⟩
abbrev b_md_in : ByteArray := prog_6_method_4_code
abbrev y_md_in : MethodName := ⟨"ChannelRulesModel", "in", "(III)Z"⟩
abbrev b_md_fails : ByteArray := prog_6_method_3_code
abbrev y_md_fails : MethodName := ⟨"ChannelRulesModel", "fails", "(I)I"⟩
abbrev b_md_rule : ByteArray := prog_6_method_11_code
abbrev y_md_rule : MethodName := ⟨"ChannelRulesModel", "rule", "(III)Z"⟩
abbrev b_md_isPiece : ByteArray := prog_6_method_6_code
abbrev y_md_isPiece : MethodName := ⟨"ChannelRulesModel", "isPiece", "(I)Z"⟩
abbrev b_md_wind : ByteArray := prog_6_method_12_code
abbrev y_md_wind : MethodName := ⟨"ChannelRulesModel", "wind", "(Z)Z"⟩
abbrev b_md_ship : ByteArray := prog_6_method_13_code
abbrev y_md_ship : MethodName := ⟨"ChannelRulesModel", "ship", "(III)I"⟩
abbrev b_md_route : ByteArray := prog_6_method_18_code
abbrev y_md_route : MethodName := ⟨"ChannelRulesModel", "route", "(IIII)I"⟩
abbrev b_md_isShip : ByteArray := prog_6_method_7_code
abbrev y_md_isShip : MethodName := ⟨"ChannelRulesModel", "isShip", "(I)Z"⟩
abbrev b_md_lays : ByteArray := prog_6_method_17_code
abbrev y_md_lays : MethodName := ⟨"ChannelRulesModel", "lays", "(III)Z"⟩
abbrev b_md_timesTo : ByteArray := prog_6_method_15_code
abbrev y_md_timesTo : MethodName := ⟨"ChannelRulesModel", "timesTo", "(II)V"⟩
abbrev b_md_takes : ByteArray := prog_6_method_14_code
abbrev y_md_takes : MethodName := ⟨"ChannelRulesModel", "takes", "(II)I"⟩
abbrev b_md_next : ByteArray := prog_6_method_16_code
abbrev y_md_next : MethodName := ⟨"ChannelRulesModel", "next", "(II)I"⟩
abbrev b_md_ask : ByteArray := prog_6_method_27_code
abbrev y_md_ask : MethodName := ⟨"ChannelRulesModel", "ask", "(IIII)I"⟩
abbrev b_md_isPassage : ByteArray := prog_6_method_26_code
abbrev y_md_isPassage : MethodName := ⟨"ChannelRulesModel", "isPassage", "(IIII)Z"⟩
abbrev b_md_isTime : ByteArray := prog_6_method_9_code
abbrev y_md_isTime : MethodName := ⟨"ChannelRulesModel", "isTime", "(I)Z"⟩
abbrev b_md_against : ByteArray := prog_6_method_25_code
abbrev y_md_against : MethodName := ⟨"ChannelRulesModel", "against", "(II)I"⟩
abbrev b_md_barred : ByteArray := prog_6_method_22_code
abbrev y_md_barred : MethodName := ⟨"ChannelRulesModel", "barred", "(II)I"⟩
abbrev b_md_enters : ByteArray := prog_6_method_19_code
abbrev y_md_enters : MethodName := ⟨"ChannelRulesModel", "enters", "(II)I"⟩
abbrev b_md_leaves : ByteArray := prog_6_method_20_code
abbrev y_md_leaves : MethodName := ⟨"ChannelRulesModel", "leaves", "(II)I"⟩
abbrev b_md_isNight : ByteArray := prog_6_method_21_code
abbrev y_md_isNight : MethodName := ⟨"ChannelRulesModel", "isNight", "(II)Z"⟩
abbrev b_md_with : ByteArray := prog_6_method_24_code
abbrev y_md_with : MethodName := ⟨"ChannelRulesModel", "with", "(III)I"⟩
abbrev b_md_between : ByteArray := prog_6_method_23_code
abbrev y_md_between : MethodName := ⟨"ChannelRulesModel", "between", "(IIII)I"⟩
abbrev b_md_earliest : ByteArray := prog_6_method_28_code
abbrev y_md_earliest : MethodName := ⟨"ChannelRulesModel", "earliest", "(IIII)I"⟩
abbrev b_md_change : ByteArray := prog_6_method_29_code
abbrev y_md_change : MethodName := ⟨"ChannelRulesModel", "change", "(II)I"⟩
abbrev b_md_isSlot : ByteArray := prog_6_method_8_code
abbrev y_md_isSlot : MethodName := ⟨"ChannelRulesModel", "isSlot", "(I)Z"⟩
abbrev b_md_back : ByteArray := prog_6_method_30_code
abbrev y_md_back : MethodName := ⟨"ChannelRulesModel", "back", "(I)Z"⟩
abbrev b_md_close : ByteArray := prog_6_method_31_code
abbrev y_md_close : MethodName := ⟨"ChannelRulesModel", "close", "(III)I"⟩
abbrev b_md_tick : ByteArray := prog_6_method_32_code
abbrev y_md_tick : MethodName := ⟨"ChannelRulesModel", "tick", "(I)Z"⟩
abbrev b_md_conflict : ByteArray := prog_6_method_34_code
abbrev y_md_conflict : MethodName := ⟨"ChannelRulesModel", "conflict", "(II)I"⟩
abbrev b_md_conflicts : ByteArray := prog_6_method_33_code
abbrev y_md_conflicts : MethodName := ⟨"ChannelRulesModel", "conflicts", "(II)I"⟩
abbrev b_md_at : ByteArray := prog_6_method_35_code
abbrev y_md_at : MethodName := ⟨"ChannelRulesModel", "at", "(III)I"⟩
abbrev b_md_count : ByteArray := prog_6_method_36_code
abbrev y_md_count : MethodName := ⟨"ChannelRulesModel", "count", "(I)I"⟩
abbrev b_lw_law : ByteArray := code
abbrev y_lw_law : MethodName := ⟨"ChannelRulesLaw", "law", "([I)Z"⟩
theorem tw_0 : (Jvm.Cond.initialized "ChannelRulesLaw") ∈ tws := tb_1 (List.mem_of_getElem? (i := 0) rfl) rfl
theorem tw_1 : (Jvm.Cond.initialized "ChannelRules") ∈ tws := tb_1 (List.mem_of_getElem? (i := 1) rfl) rfl
theorem tw_2 : (Jvm.Cond.initialized "ChannelRules$Pieces") ∈ tws := tb_1 (List.mem_of_getElem? (i := 2) rfl) rfl
theorem tw_3 : (Jvm.Cond.initialized "ChannelRules$Ships") ∈ tws := tb_1 (List.mem_of_getElem? (i := 3) rfl) rfl
theorem tw_4 : (Jvm.Cond.initialized "ChannelRules$Passages") ∈ tws := tb_1 (List.mem_of_getElem? (i := 4) rfl) rfl
theorem tw_5 : (Jvm.Cond.initialized "ChannelRulesModel") ∈ tws := tb_1 (List.mem_of_getElem? (i := 5) rfl) rfl
theorem tw_6 : (Jvm.Cond.initialized "java/lang/Throwable") ∈ tws := tb_1 (List.mem_of_getElem? (i := 6) rfl) rfl
theorem tw_7 : (Jvm.Cond.initialized "java/lang/Exception") ∈ tws := tb_1 (List.mem_of_getElem? (i := 7) rfl) rfl
theorem tw_8 : (Jvm.Cond.initialized "java/lang/RuntimeException") ∈ tws := tb_1 (List.mem_of_getElem? (i := 8) rfl) rfl
theorem tw_9 : (Jvm.Cond.initialized "java/lang/IllegalArgumentException") ∈ tws := tb_1 (List.mem_of_getElem? (i := 9) rfl) rfl
theorem tw_10 : (Jvm.Cond.initialized "java/lang/IllegalStateException") ∈ tws := tb_1 (List.mem_of_getElem? (i := 10) rfl) rfl
theorem tw_11 : (Jvm.Cond.initialized "java/lang/Math") ∈ tws := tb_1 (List.mem_of_getElem? (i := 11) rfl) rfl
theorem tw_12 : (Jvm.Cond.initialized "java/lang/IndexOutOfBoundsException") ∈ tws := tb_1 (List.mem_of_getElem? (i := 12) rfl) rfl
theorem tw_13 : (Jvm.Cond.classLink "ChannelRulesLaw" (8 : Nat) "ChannelRules") ∈ tws := tb_1 (List.mem_of_getElem? (i := 13) rfl) rfl
theorem tw_14 : (Jvm.Cond.instantiable "ChannelRules" (7 : Nat)) ∈ tws := tb_1 (List.mem_of_getElem? (i := 14) rfl) rfl
theorem tw_15 : (Jvm.Cond.methodLink "ChannelRulesLaw" (45 : Nat) ({ cls := "ChannelRules", name := "<init>", desc := "()V" } : Jvm.MethodName)) ∈ tws := tb_1 (List.mem_of_getElem? (i := 15) rfl) rfl
theorem tw_16 : (Jvm.Cond.instanceMethod ({ cls := "ChannelRules", name := "<init>", desc := "()V" } : Jvm.MethodName)) ∈ tws := tb_1 (List.mem_of_getElem? (i := 16) rfl) rfl
theorem tw_17 : (Jvm.Cond.code ({ cls := "ChannelRules", name := "<init>", desc := "()V" } : Jvm.MethodName) prog_1_method_1_code (1 : Nat) (Option.none : Option Jvm.ClassFile.FieldType)) ∈ tws := tb_1 (List.mem_of_getElem? (i := 17) rfl) rfl
theorem tw_18 : (Jvm.Cond.methodLink "ChannelRules" (3 : Nat) ({ cls := "java/lang/Object", name := "<init>", desc := "()V" } : Jvm.MethodName)) ∈ tws := tb_1 (List.mem_of_getElem? (i := 18) rfl) rfl
theorem tw_19 : (Jvm.Cond.instanceMethod ({ cls := "java/lang/Object", name := "<init>", desc := "()V" } : Jvm.MethodName)) ∈ tws := tb_1 (List.mem_of_getElem? (i := 19) rfl) rfl
theorem tw_20 : (Jvm.Cond.code ({ cls := "java/lang/Object", name := "<init>", desc := "()V" } : Jvm.MethodName) object_method_1_code (1 : Nat) (Option.none : Option Jvm.ClassFile.FieldType)) ∈ tws := tb_1 (List.mem_of_getElem? (i := 20) rfl) rfl
theorem tw_21 : (Jvm.Cond.classLink "ChannelRules" (9 : Nat) "ChannelRules$Pieces") ∈ tws := tb_1 (List.mem_of_getElem? (i := 21) rfl) rfl
theorem tw_22 : (Jvm.Cond.instantiable "ChannelRules$Pieces" (9 : Nat)) ∈ tws := tb_1 (List.mem_of_getElem? (i := 22) rfl) rfl
theorem tw_23 : (Jvm.Cond.methodLink "ChannelRules" (11 : Nat) ({ cls := "ChannelRules$Pieces", name := "<init>", desc := "()V" } : Jvm.MethodName)) ∈ tws := tb_1 (List.mem_of_getElem? (i := 23) rfl) rfl
theorem tw_24 : (Jvm.Cond.instanceMethod ({ cls := "ChannelRules$Pieces", name := "<init>", desc := "()V" } : Jvm.MethodName)) ∈ tws := tb_1 (List.mem_of_getElem? (i := 24) rfl) rfl
theorem tw_25 : (Jvm.Cond.code ({ cls := "ChannelRules$Pieces", name := "<init>", desc := "()V" } : Jvm.MethodName) prog_3_method_1_code (1 : Nat) (Option.none : Option Jvm.ClassFile.FieldType)) ∈ tws := tb_1 (List.mem_of_getElem? (i := 25) rfl) rfl
theorem tw_26 : (Jvm.Cond.methodLink "ChannelRules$Pieces" (3 : Nat) ({ cls := "java/lang/Object", name := "<init>", desc := "()V" } : Jvm.MethodName)) ∈ tws := tb_1 (List.mem_of_getElem? (i := 26) rfl) rfl
theorem tw_27 : (Jvm.Cond.fieldLink "ChannelRules$Pieces" (9 : Nat) "ChannelRules$Pieces" "made" "I") ∈ tws := tb_1 (List.mem_of_getElem? (i := 27) rfl) rfl
theorem tw_28 : (Jvm.Cond.fieldLink "ChannelRules" (62 : Nat) "ChannelRules$Pieces" "made" "I") ∈ tws := tb_1 (List.mem_of_getElem? (i := 28) rfl) rfl
theorem tw_29 : (Jvm.Cond.fieldLink "ChannelRules$Pieces" (15 : Nat) "ChannelRules$Pieces" "first" "[I") ∈ tws := tb_1 (List.mem_of_getElem? (i := 29) rfl) rfl
theorem tw_30 : (Jvm.Cond.fieldLink "ChannelRules" (197 : Nat) "ChannelRules$Pieces" "first" "[I") ∈ tws := tb_1 (List.mem_of_getElem? (i := 30) rfl) rfl
theorem tw_31 : (Jvm.Cond.fieldLink "ChannelRules$Pieces" (19 : Nat) "ChannelRules$Pieces" "second" "[I") ∈ tws := tb_1 (List.mem_of_getElem? (i := 31) rfl) rfl
theorem tw_32 : (Jvm.Cond.fieldLink "ChannelRules" (217 : Nat) "ChannelRules$Pieces" "second" "[I") ∈ tws := tb_1 (List.mem_of_getElem? (i := 32) rfl) rfl
theorem tw_33 : (Jvm.Cond.fieldLink "ChannelRules$Pieces" (22 : Nat) "ChannelRules$Pieces" "length" "[I") ∈ tws := tb_1 (List.mem_of_getElem? (i := 33) rfl) rfl
theorem tw_34 : (Jvm.Cond.fieldLink "ChannelRules" (227 : Nat) "ChannelRules$Pieces" "length" "[I") ∈ tws := tb_1 (List.mem_of_getElem? (i := 34) rfl) rfl
theorem tw_35 : (Jvm.Cond.fieldLink "ChannelRules$Pieces" (25 : Nat) "ChannelRules$Pieces" "width" "[I") ∈ tws := tb_1 (List.mem_of_getElem? (i := 35) rfl) rfl
theorem tw_36 : (Jvm.Cond.fieldLink "ChannelRules" (220 : Nat) "ChannelRules$Pieces" "width" "[I") ∈ tws := tb_1 (List.mem_of_getElem? (i := 36) rfl) rfl
theorem tw_37 : (Jvm.Cond.fieldLink "ChannelRules$Pieces" (28 : Nat) "ChannelRules$Pieces" "rules" "[I") ∈ tws := tb_1 (List.mem_of_getElem? (i := 37) rfl) rfl
theorem tw_38 : (Jvm.Cond.fieldLink "ChannelRules$Pieces" (31 : Nat) "ChannelRules$Pieces" "spans" "[I") ∈ tws := tb_1 (List.mem_of_getElem? (i := 38) rfl) rfl
theorem tw_39 : (Jvm.Cond.fieldLink "ChannelRules" (148 : Nat) "ChannelRules$Pieces" "spans" "[I") ∈ tws := tb_1 (List.mem_of_getElem? (i := 39) rfl) rfl
theorem tw_40 : (Jvm.Cond.fieldLink "ChannelRules$Pieces" (34 : Nat) "ChannelRules$Pieces" "spanFrom" "[I") ∈ tws := tb_1 (List.mem_of_getElem? (i := 40) rfl) rfl
theorem tw_41 : (Jvm.Cond.fieldLink "ChannelRules$Pieces" (37 : Nat) "ChannelRules$Pieces" "spanTo" "[I") ∈ tws := tb_1 (List.mem_of_getElem? (i := 41) rfl) rfl
theorem tw_60 : (Jvm.Cond.superclass "ChannelRules$Pieces" "java/lang/Object") ∈ tws := tb_1 (List.mem_of_getElem? (i := 60) rfl) rfl
theorem tw_61 : (Jvm.Cond.arrayClass Jvm.ClassFile.FieldType.int) ∈ tws := tb_1 (List.mem_of_getElem? (i := 61) rfl) rfl
theorem tw_62 : (Jvm.Cond.classLink "ChannelRules" (16 : Nat) "ChannelRules$Ships") ∈ tws := tb_1 (List.mem_of_getElem? (i := 62) rfl) rfl
theorem tw_63 : (Jvm.Cond.instantiable "ChannelRules$Ships" (4 : Nat)) ∈ tws := tb_1 (List.mem_of_getElem? (i := 63) rfl) rfl
theorem tw_64 : (Jvm.Cond.methodLink "ChannelRules" (18 : Nat) ({ cls := "ChannelRules$Ships", name := "<init>", desc := "()V" } : Jvm.MethodName)) ∈ tws := tb_1 (List.mem_of_getElem? (i := 64) rfl) rfl
theorem tw_65 : (Jvm.Cond.instanceMethod ({ cls := "ChannelRules$Ships", name := "<init>", desc := "()V" } : Jvm.MethodName)) ∈ tws := tb_1 (List.mem_of_getElem? (i := 65) rfl) rfl
theorem tw_66 : (Jvm.Cond.code ({ cls := "ChannelRules$Ships", name := "<init>", desc := "()V" } : Jvm.MethodName) prog_4_method_1_code (1 : Nat) (Option.none : Option Jvm.ClassFile.FieldType)) ∈ tws := tb_1 (List.mem_of_getElem? (i := 66) rfl) rfl
theorem tw_67 : (Jvm.Cond.methodLink "ChannelRules$Ships" (3 : Nat) ({ cls := "java/lang/Object", name := "<init>", desc := "()V" } : Jvm.MethodName)) ∈ tws := tb_1 (List.mem_of_getElem? (i := 67) rfl) rfl
theorem tw_68 : (Jvm.Cond.fieldLink "ChannelRules$Ships" (9 : Nat) "ChannelRules$Ships" "made" "I") ∈ tws := tb_1 (List.mem_of_getElem? (i := 68) rfl) rfl
theorem tw_69 : (Jvm.Cond.fieldLink "ChannelRules" (86 : Nat) "ChannelRules$Ships" "made" "I") ∈ tws := tb_1 (List.mem_of_getElem? (i := 69) rfl) rfl
theorem tw_70 : (Jvm.Cond.fieldLink "ChannelRules$Ships" (15 : Nat) "ChannelRules$Ships" "width" "[I") ∈ tws := tb_1 (List.mem_of_getElem? (i := 70) rfl) rfl
theorem tw_71 : (Jvm.Cond.fieldLink "ChannelRules" (223 : Nat) "ChannelRules$Ships" "width" "[I") ∈ tws := tb_1 (List.mem_of_getElem? (i := 71) rfl) rfl
theorem tw_72 : (Jvm.Cond.fieldLink "ChannelRules$Ships" (19 : Nat) "ChannelRules$Ships" "speed" "[I") ∈ tws := tb_1 (List.mem_of_getElem? (i := 72) rfl) rfl
theorem tw_73 : (Jvm.Cond.fieldLink "ChannelRules" (224 : Nat) "ChannelRules$Ships" "speed" "[I") ∈ tws := tb_1 (List.mem_of_getElem? (i := 73) rfl) rfl
theorem tw_74 : (Jvm.Cond.fieldLink "ChannelRules$Ships" (22 : Nat) "ChannelRules$Ships" "cls" "[I") ∈ tws := tb_1 (List.mem_of_getElem? (i := 74) rfl) rfl
theorem tw_75 : (Jvm.Cond.fieldLink "ChannelRules" (251 : Nat) "ChannelRules$Ships" "cls" "[I") ∈ tws := tb_1 (List.mem_of_getElem? (i := 75) rfl) rfl
theorem tw_84 : (Jvm.Cond.superclass "ChannelRules$Ships" "java/lang/Object") ∈ tws := tb_1 (List.mem_of_getElem? (i := 84) rfl) rfl
theorem tw_85 : (Jvm.Cond.classLink "ChannelRules" (23 : Nat) "ChannelRules$Passages") ∈ tws := tb_1 (List.mem_of_getElem? (i := 85) rfl) rfl
theorem tw_86 : (Jvm.Cond.instantiable "ChannelRules$Passages" (9 : Nat)) ∈ tws := tb_1 (List.mem_of_getElem? (i := 86) rfl) rfl
theorem tw_87 : (Jvm.Cond.methodLink "ChannelRules" (25 : Nat) ({ cls := "ChannelRules$Passages", name := "<init>", desc := "()V" } : Jvm.MethodName)) ∈ tws := tb_1 (List.mem_of_getElem? (i := 87) rfl) rfl
theorem tw_88 : (Jvm.Cond.instanceMethod ({ cls := "ChannelRules$Passages", name := "<init>", desc := "()V" } : Jvm.MethodName)) ∈ tws := tb_1 (List.mem_of_getElem? (i := 88) rfl) rfl
theorem tw_89 : (Jvm.Cond.code ({ cls := "ChannelRules$Passages", name := "<init>", desc := "()V" } : Jvm.MethodName) prog_2_method_1_code (1 : Nat) (Option.none : Option Jvm.ClassFile.FieldType)) ∈ tws := tb_1 (List.mem_of_getElem? (i := 89) rfl) rfl
theorem tw_90 : (Jvm.Cond.methodLink "ChannelRules$Passages" (3 : Nat) ({ cls := "java/lang/Object", name := "<init>", desc := "()V" } : Jvm.MethodName)) ∈ tws := tb_1 (List.mem_of_getElem? (i := 90) rfl) rfl
theorem tw_91 : (Jvm.Cond.fieldLink "ChannelRules$Passages" (9 : Nat) "ChannelRules$Passages" "slots" "I") ∈ tws := tb_1 (List.mem_of_getElem? (i := 91) rfl) rfl
theorem tw_92 : (Jvm.Cond.fieldLink "ChannelRules" (110 : Nat) "ChannelRules$Passages" "slots" "I") ∈ tws := tb_1 (List.mem_of_getElem? (i := 92) rfl) rfl
theorem tw_93 : (Jvm.Cond.fieldLink "ChannelRules$Passages" (15 : Nat) "ChannelRules$Passages" "given" "[Z") ∈ tws := tb_1 (List.mem_of_getElem? (i := 93) rfl) rfl
theorem tw_94 : (Jvm.Cond.fieldLink "ChannelRules" (142 : Nat) "ChannelRules$Passages" "given" "[Z") ∈ tws := tb_1 (List.mem_of_getElem? (i := 94) rfl) rfl
theorem tw_95 : (Jvm.Cond.fieldLink "ChannelRules$Passages" (19 : Nat) "ChannelRules$Passages" "ship" "[I") ∈ tws := tb_1 (List.mem_of_getElem? (i := 95) rfl) rfl
theorem tw_96 : (Jvm.Cond.fieldLink "ChannelRules" (254 : Nat) "ChannelRules$Passages" "ship" "[I") ∈ tws := tb_1 (List.mem_of_getElem? (i := 96) rfl) rfl
theorem tw_97 : (Jvm.Cond.fieldLink "ChannelRules$Passages" (23 : Nat) "ChannelRules$Passages" "begin" "[I") ∈ tws := tb_1 (List.mem_of_getElem? (i := 97) rfl) rfl
theorem tw_98 : (Jvm.Cond.fieldLink "ChannelRules" (115 : Nat) "ChannelRules$Passages" "begin" "[I") ∈ tws := tb_1 (List.mem_of_getElem? (i := 98) rfl) rfl
theorem tw_99 : (Jvm.Cond.fieldLink "ChannelRules$Passages" (26 : Nat) "ChannelRules$Passages" "stays" "[I") ∈ tws := tb_1 (List.mem_of_getElem? (i := 99) rfl) rfl
theorem tw_100 : (Jvm.Cond.fieldLink "ChannelRules" (104 : Nat) "ChannelRules$Passages" "stays" "[I") ∈ tws := tb_1 (List.mem_of_getElem? (i := 100) rfl) rfl
theorem tw_101 : (Jvm.Cond.fieldLink "ChannelRules$Passages" (29 : Nat) "ChannelRules$Passages" "pieceOfStay" "[I") ∈ tws := tb_1 (List.mem_of_getElem? (i := 101) rfl) rfl
theorem tw_102 : (Jvm.Cond.fieldLink "ChannelRules$Passages" (32 : Nat) "ChannelRules$Passages" "forward" "[Z") ∈ tws := tb_1 (List.mem_of_getElem? (i := 102) rfl) rfl
theorem tw_103 : (Jvm.Cond.fieldLink "ChannelRules$Passages" (35 : Nat) "ChannelRules$Passages" "offset" "[I") ∈ tws := tb_1 (List.mem_of_getElem? (i := 103) rfl) rfl
theorem tw_104 : (Jvm.Cond.fieldLink "ChannelRules$Passages" (38 : Nat) "ChannelRules$Passages" "stayMark" "[I") ∈ tws := tb_1 (List.mem_of_getElem? (i := 104) rfl) rfl
theorem tw_123 : (Jvm.Cond.superclass "ChannelRules$Passages" "java/lang/Object") ∈ tws := tb_1 (List.mem_of_getElem? (i := 123) rfl) rfl
theorem tw_124 : (Jvm.Cond.arrayClass Jvm.ClassFile.FieldType.boolean) ∈ tws := tb_1 (List.mem_of_getElem? (i := 124) rfl) rfl
theorem tw_125 : (Jvm.Cond.fieldLink "ChannelRules" (12 : Nat) "ChannelRules" "pieces" "LChannelRules$Pieces;") ∈ tws := tb_1 (List.mem_of_getElem? (i := 125) rfl) rfl
theorem tw_126 : (Jvm.Cond.fieldLink "ChannelRules" (19 : Nat) "ChannelRules" "ships" "LChannelRules$Ships;") ∈ tws := tb_1 (List.mem_of_getElem? (i := 126) rfl) rfl
theorem tw_127 : (Jvm.Cond.fieldLink "ChannelRules" (26 : Nat) "ChannelRules" "passages" "LChannelRules$Passages;") ∈ tws := tb_1 (List.mem_of_getElem? (i := 127) rfl) rfl
theorem tw_128 : (Jvm.Cond.fieldLink "ChannelRules" (30 : Nat) "ChannelRules" "timeLeft" "[I") ∈ tws := tb_1 (List.mem_of_getElem? (i := 128) rfl) rfl
theorem tw_129 : (Jvm.Cond.fieldLink "ChannelRules" (34 : Nat) "ChannelRules" "foundConflict" "[I") ∈ tws := tb_1 (List.mem_of_getElem? (i := 129) rfl) rfl
theorem tw_130 : (Jvm.Cond.fieldLink "ChannelRules" (37 : Nat) "ChannelRules" "windy" "Z") ∈ tws := tb_1 (List.mem_of_getElem? (i := 130) rfl) rfl
theorem tw_131 : (Jvm.Cond.fieldLink "ChannelRules" (41 : Nat) "ChannelRules" "now" "I") ∈ tws := tb_1 (List.mem_of_getElem? (i := 131) rfl) rfl
theorem tw_146 : (Jvm.Cond.superclass "ChannelRules" "java/lang/Object") ∈ tws := tb_1 (List.mem_of_getElem? (i := 146) rfl) rfl
theorem tw_147 : (Jvm.Cond.methodLink "ChannelRulesLaw" (59 : Nat) ({ cls := "ChannelRules", name := "rule", desc := "(III)Z" } : Jvm.MethodName)) ∈ tws := tb_1 (List.mem_of_getElem? (i := 147) rfl) rfl
theorem tw_148 : (Jvm.Cond.instanceMethod ({ cls := "ChannelRules", name := "rule", desc := "(III)Z" } : Jvm.MethodName)) ∈ tws := tb_1 (List.mem_of_getElem? (i := 148) rfl) rfl
theorem tw_149 : (Jvm.Cond.selects "ChannelRules" ({ cls := "ChannelRules", name := "rule", desc := "(III)Z" } : Jvm.MethodName) ({ cls := "ChannelRules", name := "rule", desc := "(III)Z" } : Jvm.MethodName)) ∈ tws := tb_1 (List.mem_of_getElem? (i := 149) rfl) rfl
theorem tw_150 : (Jvm.Cond.code ({ cls := "ChannelRules", name := "rule", desc := "(III)Z" } : Jvm.MethodName) prog_1_method_3_code (4 : Nat) (Option.some Jvm.ClassFile.FieldType.boolean)) ∈ tws := tb_1 (List.mem_of_getElem? (i := 150) rfl) rfl
theorem tw_151 : (Jvm.Cond.methodLink "ChannelRules" (74 : Nat) ({ cls := "ChannelRules$Pieces", name := "has", desc := "(I)Z" } : Jvm.MethodName)) ∈ tws := tb_1 (List.mem_of_getElem? (i := 151) rfl) rfl
theorem tw_152 : (Jvm.Cond.instanceMethod ({ cls := "ChannelRules$Pieces", name := "has", desc := "(I)Z" } : Jvm.MethodName)) ∈ tws := tb_1 (List.mem_of_getElem? (i := 152) rfl) rfl
theorem tw_153 : (Jvm.Cond.selects "ChannelRules$Pieces" ({ cls := "ChannelRules$Pieces", name := "has", desc := "(I)Z" } : Jvm.MethodName) ({ cls := "ChannelRules$Pieces", name := "has", desc := "(I)Z" } : Jvm.MethodName)) ∈ tws := tb_1 (List.mem_of_getElem? (i := 153) rfl) rfl
theorem tw_154 : (Jvm.Cond.code ({ cls := "ChannelRules$Pieces", name := "has", desc := "(I)Z" } : Jvm.MethodName) prog_3_method_2_code (2 : Nat) (Option.some Jvm.ClassFile.FieldType.boolean)) ∈ tws := tb_1 (List.mem_of_getElem? (i := 154) rfl) rfl
theorem tw_155 : (Jvm.Cond.methodLinkNest "ChannelRules$Pieces" (40 : Nat) ({ cls := "ChannelRules", name := "isWithin", desc := "(III)Z" } : Jvm.MethodName) "ChannelRules") ∈ tws := tb_1 (List.mem_of_getElem? (i := 155) rfl) rfl
theorem tw_156 : (Jvm.Cond.static ({ cls := "ChannelRules", name := "isWithin", desc := "(III)Z" } : Jvm.MethodName)) ∈ tws := tb_1 (List.mem_of_getElem? (i := 156) rfl) rfl
theorem tw_157 : (Jvm.Cond.code ({ cls := "ChannelRules", name := "isWithin", desc := "(III)Z" } : Jvm.MethodName) prog_1_method_17_code (3 : Nat) (Option.some Jvm.ClassFile.FieldType.boolean)) ∈ tws := tb_1 (List.mem_of_getElem? (i := 157) rfl) rfl
theorem tw_158 : (Jvm.Cond.methodLink "ChannelRules" (56 : Nat) ({ cls := "ChannelRules", name := "isWithin", desc := "(III)Z" } : Jvm.MethodName)) ∈ tws := tb_1 (List.mem_of_getElem? (i := 158) rfl) rfl
theorem tw_159 : (Jvm.Cond.fieldLink "ChannelRules" (77 : Nat) "ChannelRules" "GREATEST_V" "[I") ∈ tws := tb_1 (List.mem_of_getElem? (i := 159) rfl) rfl
theorem tx_160 : (Jvm.Cond.laysStatic "ChannelRules" "GREATEST_V" "[I") ∈ lw_tbl := List.mem_append_right _ (List.mem_append_left _ (List.mem_of_getElem? (i := 160) rfl))
theorem tw_161 : (Jvm.Cond.methodLink "ChannelRules" (80 : Nat) ({ cls := "ChannelRules$Pieces", name := "setRule", desc := "(III)V" } : Jvm.MethodName)) ∈ tws := tb_1 (List.mem_of_getElem? (i := 161) rfl) rfl
theorem tw_162 : (Jvm.Cond.instanceMethod ({ cls := "ChannelRules$Pieces", name := "setRule", desc := "(III)V" } : Jvm.MethodName)) ∈ tws := tb_1 (List.mem_of_getElem? (i := 162) rfl) rfl
theorem tw_163 : (Jvm.Cond.selects "ChannelRules$Pieces" ({ cls := "ChannelRules$Pieces", name := "setRule", desc := "(III)V" } : Jvm.MethodName) ({ cls := "ChannelRules$Pieces", name := "setRule", desc := "(III)V" } : Jvm.MethodName)) ∈ tws := tb_1 (List.mem_of_getElem? (i := 163) rfl) rfl
theorem tw_164 : (Jvm.Cond.code ({ cls := "ChannelRules$Pieces", name := "setRule", desc := "(III)V" } : Jvm.MethodName) prog_3_method_6_code (4 : Nat) (Option.none : Option Jvm.ClassFile.FieldType)) ∈ tws := tb_1 (List.mem_of_getElem? (i := 164) rfl) rfl
theorem tw_165 : (Jvm.Cond.methodLink "ChannelRulesLaw" (64 : Nat) ({ cls := "ChannelRules", name := "wind", desc := "(Z)Z" } : Jvm.MethodName)) ∈ tws := tb_1 (List.mem_of_getElem? (i := 165) rfl) rfl
theorem tw_166 : (Jvm.Cond.instanceMethod ({ cls := "ChannelRules", name := "wind", desc := "(Z)Z" } : Jvm.MethodName)) ∈ tws := tb_1 (List.mem_of_getElem? (i := 166) rfl) rfl
theorem tw_167 : (Jvm.Cond.selects "ChannelRules" ({ cls := "ChannelRules", name := "wind", desc := "(Z)Z" } : Jvm.MethodName) ({ cls := "ChannelRules", name := "wind", desc := "(Z)Z" } : Jvm.MethodName)) ∈ tws := tb_1 (List.mem_of_getElem? (i := 167) rfl) rfl
theorem tw_168 : (Jvm.Cond.code ({ cls := "ChannelRules", name := "wind", desc := "(Z)Z" } : Jvm.MethodName) prog_1_method_4_code (2 : Nat) (Option.some Jvm.ClassFile.FieldType.boolean)) ∈ tws := tb_1 (List.mem_of_getElem? (i := 168) rfl) rfl
theorem tw_169 : (Jvm.Cond.methodLink "ChannelRulesLaw" (86 : Nat) ({ cls := "ChannelRules", name := "back", desc := "(I)Z" } : Jvm.MethodName)) ∈ tws := tb_1 (List.mem_of_getElem? (i := 169) rfl) rfl
theorem tw_170 : (Jvm.Cond.instanceMethod ({ cls := "ChannelRules", name := "back", desc := "(I)Z" } : Jvm.MethodName)) ∈ tws := tb_1 (List.mem_of_getElem? (i := 170) rfl) rfl
theorem tw_171 : (Jvm.Cond.selects "ChannelRules" ({ cls := "ChannelRules", name := "back", desc := "(I)Z" } : Jvm.MethodName) ({ cls := "ChannelRules", name := "back", desc := "(I)Z" } : Jvm.MethodName)) ∈ tws := tb_1 (List.mem_of_getElem? (i := 171) rfl) rfl
theorem tw_172 : (Jvm.Cond.code ({ cls := "ChannelRules", name := "back", desc := "(I)Z" } : Jvm.MethodName) prog_1_method_10_code (2 : Nat) (Option.some Jvm.ClassFile.FieldType.boolean)) ∈ tws := tb_1 (List.mem_of_getElem? (i := 172) rfl) rfl
theorem tw_173 : (Jvm.Cond.methodLink "ChannelRules" (134 : Nat) ({ cls := "ChannelRules$Passages", name := "hasSlot", desc := "(I)Z" } : Jvm.MethodName)) ∈ tws := tb_1 (List.mem_of_getElem? (i := 173) rfl) rfl
theorem tw_174 : (Jvm.Cond.instanceMethod ({ cls := "ChannelRules$Passages", name := "hasSlot", desc := "(I)Z" } : Jvm.MethodName)) ∈ tws := tb_1 (List.mem_of_getElem? (i := 174) rfl) rfl
theorem tw_175 : (Jvm.Cond.selects "ChannelRules$Passages" ({ cls := "ChannelRules$Passages", name := "hasSlot", desc := "(I)Z" } : Jvm.MethodName) ({ cls := "ChannelRules$Passages", name := "hasSlot", desc := "(I)Z" } : Jvm.MethodName)) ∈ tws := tb_1 (List.mem_of_getElem? (i := 175) rfl) rfl
theorem tw_176 : (Jvm.Cond.code ({ cls := "ChannelRules$Passages", name := "hasSlot", desc := "(I)Z" } : Jvm.MethodName) prog_2_method_2_code (2 : Nat) (Option.some Jvm.ClassFile.FieldType.boolean)) ∈ tws := tb_1 (List.mem_of_getElem? (i := 176) rfl) rfl
theorem tw_177 : (Jvm.Cond.methodLinkNest "ChannelRules$Passages" (41 : Nat) ({ cls := "ChannelRules", name := "isWithin", desc := "(III)Z" } : Jvm.MethodName) "ChannelRules") ∈ tws := tb_1 (List.mem_of_getElem? (i := 177) rfl) rfl
theorem tw_178 : (Jvm.Cond.methodLink "ChannelRules" (139 : Nat) ({ cls := "ChannelRules", name := "isStillToBegin", desc := "(I)Z" } : Jvm.MethodName)) ∈ tws := tb_1 (List.mem_of_getElem? (i := 178) rfl) rfl
theorem tw_179 : (Jvm.Cond.privateMethod ({ cls := "ChannelRules", name := "isStillToBegin", desc := "(I)Z" } : Jvm.MethodName)) ∈ tws := tb_1 (List.mem_of_getElem? (i := 179) rfl) rfl
theorem tw_180 : (Jvm.Cond.instanceMethod ({ cls := "ChannelRules", name := "isStillToBegin", desc := "(I)Z" } : Jvm.MethodName)) ∈ tws := tb_1 (List.mem_of_getElem? (i := 180) rfl) rfl
theorem tw_181 : (Jvm.Cond.code ({ cls := "ChannelRules", name := "isStillToBegin", desc := "(I)Z" } : Jvm.MethodName) prog_1_method_20_code (2 : Nat) (Option.some Jvm.ClassFile.FieldType.boolean)) ∈ tws := tb_1 (List.mem_of_getElem? (i := 181) rfl) rfl
theorem tw_182 : (Jvm.Cond.methodLink "ChannelRulesLaw" (94 : Nat) ({ cls := "ChannelRules", name := "tick", desc := "(I)Z" } : Jvm.MethodName)) ∈ tws := tb_1 (List.mem_of_getElem? (i := 182) rfl) rfl
theorem tw_183 : (Jvm.Cond.instanceMethod ({ cls := "ChannelRules", name := "tick", desc := "(I)Z" } : Jvm.MethodName)) ∈ tws := tb_1 (List.mem_of_getElem? (i := 183) rfl) rfl
theorem tw_184 : (Jvm.Cond.selects "ChannelRules" ({ cls := "ChannelRules", name := "tick", desc := "(I)Z" } : Jvm.MethodName) ({ cls := "ChannelRules", name := "tick", desc := "(I)Z" } : Jvm.MethodName)) ∈ tws := tb_1 (List.mem_of_getElem? (i := 184) rfl) rfl
theorem tw_185 : (Jvm.Cond.code ({ cls := "ChannelRules", name := "tick", desc := "(I)Z" } : Jvm.MethodName) prog_1_method_12_code (2 : Nat) (Option.some Jvm.ClassFile.FieldType.boolean)) ∈ tws := tb_1 (List.mem_of_getElem? (i := 185) rfl) rfl
theorem tw_186 : (Jvm.Cond.constant "ChannelRules" (107 : Nat) (100000 : Int32)) ∈ tws := tb_1 (List.mem_of_getElem? (i := 186) rfl) rfl
theorem tw_187 : (Jvm.Cond.methodLink "ChannelRulesLaw" (104 : Nat) ({ cls := "ChannelRules", name := "count", desc := "(I)I" } : Jvm.MethodName)) ∈ tws := tb_1 (List.mem_of_getElem? (i := 187) rfl) rfl
theorem tw_188 : (Jvm.Cond.instanceMethod ({ cls := "ChannelRules", name := "count", desc := "(I)I" } : Jvm.MethodName)) ∈ tws := tb_1 (List.mem_of_getElem? (i := 188) rfl) rfl
theorem tw_189 : (Jvm.Cond.selects "ChannelRules" ({ cls := "ChannelRules", name := "count", desc := "(I)I" } : Jvm.MethodName) ({ cls := "ChannelRules", name := "count", desc := "(I)I" } : Jvm.MethodName)) ∈ tws := tb_1 (List.mem_of_getElem? (i := 189) rfl) rfl
theorem tw_190 : (Jvm.Cond.code ({ cls := "ChannelRules", name := "count", desc := "(I)I" } : Jvm.MethodName) prog_1_method_15_code (2 : Nat) (Option.some Jvm.ClassFile.FieldType.int)) ∈ tws := tb_1 (List.mem_of_getElem? (i := 190) rfl) rfl
theorem tw_191 : (Jvm.Cond.methodLink "ChannelRules" (179 : Nat) ({ cls := "ChannelRules$Passages", name := "givenSlots", desc := "()I" } : Jvm.MethodName)) ∈ tws := tb_1 (List.mem_of_getElem? (i := 191) rfl) rfl
theorem tw_192 : (Jvm.Cond.instanceMethod ({ cls := "ChannelRules$Passages", name := "givenSlots", desc := "()I" } : Jvm.MethodName)) ∈ tws := tb_1 (List.mem_of_getElem? (i := 192) rfl) rfl
theorem tw_193 : (Jvm.Cond.selects "ChannelRules$Passages" ({ cls := "ChannelRules$Passages", name := "givenSlots", desc := "()I" } : Jvm.MethodName) ({ cls := "ChannelRules$Passages", name := "givenSlots", desc := "()I" } : Jvm.MethodName)) ∈ tws := tb_1 (List.mem_of_getElem? (i := 193) rfl) rfl
theorem tw_194 : (Jvm.Cond.code ({ cls := "ChannelRules$Passages", name := "givenSlots", desc := "()I" } : Jvm.MethodName) prog_2_method_3_code (3 : Nat) (Option.some Jvm.ClassFile.FieldType.int)) ∈ tws := tb_1 (List.mem_of_getElem? (i := 194) rfl) rfl
theorem tw_195 : (Jvm.Cond.methodLink "ChannelRules" (161 : Nat) ({ cls := "ChannelRules", name := "seekConflict", desc := "(I)I" } : Jvm.MethodName)) ∈ tws := tb_1 (List.mem_of_getElem? (i := 195) rfl) rfl
theorem tw_196 : (Jvm.Cond.privateMethod ({ cls := "ChannelRules", name := "seekConflict", desc := "(I)I" } : Jvm.MethodName)) ∈ tws := tb_1 (List.mem_of_getElem? (i := 196) rfl) rfl
theorem tw_197 : (Jvm.Cond.instanceMethod ({ cls := "ChannelRules", name := "seekConflict", desc := "(I)I" } : Jvm.MethodName)) ∈ tws := tb_1 (List.mem_of_getElem? (i := 197) rfl) rfl
theorem tw_198 : (Jvm.Cond.code ({ cls := "ChannelRules", name := "seekConflict", desc := "(I)I" } : Jvm.MethodName) prog_1_method_41_code (5 : Nat) (Option.some Jvm.ClassFile.FieldType.int)) ∈ tws := tb_1 (List.mem_of_getElem? (i := 198) rfl) rfl
theorem tw_199 : (Jvm.Cond.methodLink "ChannelRules" (288 : Nat) ({ cls := "ChannelRules", name := "seekConflictOfPair", desc := "(IIII)I" } : Jvm.MethodName)) ∈ tws := tb_1 (List.mem_of_getElem? (i := 199) rfl) rfl
theorem tw_200 : (Jvm.Cond.privateMethod ({ cls := "ChannelRules", name := "seekConflictOfPair", desc := "(IIII)I" } : Jvm.MethodName)) ∈ tws := tb_1 (List.mem_of_getElem? (i := 200) rfl) rfl
theorem tw_201 : (Jvm.Cond.instanceMethod ({ cls := "ChannelRules", name := "seekConflictOfPair", desc := "(IIII)I" } : Jvm.MethodName)) ∈ tws := tb_1 (List.mem_of_getElem? (i := 201) rfl) rfl
theorem tw_202 : (Jvm.Cond.code ({ cls := "ChannelRules", name := "seekConflictOfPair", desc := "(IIII)I" } : Jvm.MethodName) prog_1_method_42_code (8 : Nat) (Option.some Jvm.ClassFile.FieldType.int)) ∈ tws := tb_1 (List.mem_of_getElem? (i := 202) rfl) rfl
theorem tw_203 : (Jvm.Cond.methodLink "ChannelRules" (257 : Nat) ({ cls := "ChannelRules", name := "conflictWith", desc := "(III)I" } : Jvm.MethodName)) ∈ tws := tb_1 (List.mem_of_getElem? (i := 203) rfl) rfl
theorem tw_204 : (Jvm.Cond.privateMethod ({ cls := "ChannelRules", name := "conflictWith", desc := "(III)I" } : Jvm.MethodName)) ∈ tws := tb_1 (List.mem_of_getElem? (i := 204) rfl) rfl
theorem tw_205 : (Jvm.Cond.instanceMethod ({ cls := "ChannelRules", name := "conflictWith", desc := "(III)I" } : Jvm.MethodName)) ∈ tws := tb_1 (List.mem_of_getElem? (i := 205) rfl) rfl
theorem tw_206 : (Jvm.Cond.code ({ cls := "ChannelRules", name := "conflictWith", desc := "(III)I" } : Jvm.MethodName) prog_1_method_34_code (10 : Nat) (Option.some Jvm.ClassFile.FieldType.int)) ∈ tws := tb_1 (List.mem_of_getElem? (i := 206) rfl) rfl
theorem tw_207 : (Jvm.Cond.methodLink "ChannelRules" (100 : Nat) ({ cls := "ChannelRules$Passages", name := "pieceOf", desc := "(II)I" } : Jvm.MethodName)) ∈ tws := tb_1 (List.mem_of_getElem? (i := 207) rfl) rfl
theorem tw_208 : (Jvm.Cond.instanceMethod ({ cls := "ChannelRules$Passages", name := "pieceOf", desc := "(II)I" } : Jvm.MethodName)) ∈ tws := tb_1 (List.mem_of_getElem? (i := 208) rfl) rfl
theorem tw_209 : (Jvm.Cond.selects "ChannelRules$Passages" ({ cls := "ChannelRules$Passages", name := "pieceOf", desc := "(II)I" } : Jvm.MethodName) ({ cls := "ChannelRules$Passages", name := "pieceOf", desc := "(II)I" } : Jvm.MethodName)) ∈ tws := tb_1 (List.mem_of_getElem? (i := 209) rfl) rfl
theorem tw_210 : (Jvm.Cond.code ({ cls := "ChannelRules$Passages", name := "pieceOf", desc := "(II)I" } : Jvm.MethodName) prog_2_method_4_code (3 : Nat) (Option.some Jvm.ClassFile.FieldType.int)) ∈ tws := tb_1 (List.mem_of_getElem? (i := 210) rfl) rfl
theorem tw_211 : (Jvm.Cond.methodLink "ChannelRules" (260 : Nat) ({ cls := "ChannelRules$Passages", name := "stayOn", desc := "(II)I" } : Jvm.MethodName)) ∈ tws := tb_1 (List.mem_of_getElem? (i := 211) rfl) rfl
theorem tw_212 : (Jvm.Cond.instanceMethod ({ cls := "ChannelRules$Passages", name := "stayOn", desc := "(II)I" } : Jvm.MethodName)) ∈ tws := tb_1 (List.mem_of_getElem? (i := 212) rfl) rfl
theorem tw_213 : (Jvm.Cond.selects "ChannelRules$Passages" ({ cls := "ChannelRules$Passages", name := "stayOn", desc := "(II)I" } : Jvm.MethodName) ({ cls := "ChannelRules$Passages", name := "stayOn", desc := "(II)I" } : Jvm.MethodName)) ∈ tws := tb_1 (List.mem_of_getElem? (i := 213) rfl) rfl
theorem tw_214 : (Jvm.Cond.code ({ cls := "ChannelRules$Passages", name := "stayOn", desc := "(II)I" } : Jvm.MethodName) prog_2_method_8_code (3 : Nat) (Option.some Jvm.ClassFile.FieldType.int)) ∈ tws := tb_1 (List.mem_of_getElem? (i := 214) rfl) rfl
theorem tw_215 : (Jvm.Cond.methodLink "ChannelRules" (169 : Nat) ({ cls := "ChannelRules$Passages", name := "entersAt", desc := "(II)I" } : Jvm.MethodName)) ∈ tws := tb_1 (List.mem_of_getElem? (i := 215) rfl) rfl
theorem tw_216 : (Jvm.Cond.instanceMethod ({ cls := "ChannelRules$Passages", name := "entersAt", desc := "(II)I" } : Jvm.MethodName)) ∈ tws := tb_1 (List.mem_of_getElem? (i := 216) rfl) rfl
theorem tw_217 : (Jvm.Cond.selects "ChannelRules$Passages" ({ cls := "ChannelRules$Passages", name := "entersAt", desc := "(II)I" } : Jvm.MethodName) ({ cls := "ChannelRules$Passages", name := "entersAt", desc := "(II)I" } : Jvm.MethodName)) ∈ tws := tb_1 (List.mem_of_getElem? (i := 217) rfl) rfl
theorem tw_218 : (Jvm.Cond.code ({ cls := "ChannelRules$Passages", name := "entersAt", desc := "(II)I" } : Jvm.MethodName) prog_2_method_6_code (3 : Nat) (Option.some Jvm.ClassFile.FieldType.int)) ∈ tws := tb_1 (List.mem_of_getElem? (i := 218) rfl) rfl
theorem tw_219 : (Jvm.Cond.methodLink "ChannelRules" (172 : Nat) ({ cls := "ChannelRules$Passages", name := "leavesAt", desc := "(II)I" } : Jvm.MethodName)) ∈ tws := tb_1 (List.mem_of_getElem? (i := 219) rfl) rfl
theorem tw_220 : (Jvm.Cond.instanceMethod ({ cls := "ChannelRules$Passages", name := "leavesAt", desc := "(II)I" } : Jvm.MethodName)) ∈ tws := tb_1 (List.mem_of_getElem? (i := 220) rfl) rfl
theorem tw_221 : (Jvm.Cond.selects "ChannelRules$Passages" ({ cls := "ChannelRules$Passages", name := "leavesAt", desc := "(II)I" } : Jvm.MethodName) ({ cls := "ChannelRules$Passages", name := "leavesAt", desc := "(II)I" } : Jvm.MethodName)) ∈ tws := tb_1 (List.mem_of_getElem? (i := 221) rfl) rfl
theorem tw_222 : (Jvm.Cond.code ({ cls := "ChannelRules$Passages", name := "leavesAt", desc := "(II)I" } : Jvm.MethodName) prog_2_method_7_code (3 : Nat) (Option.some Jvm.ClassFile.FieldType.int)) ∈ tws := tb_1 (List.mem_of_getElem? (i := 222) rfl) rfl
theorem tw_223 : (Jvm.Cond.methodLink "ChannelRules" (263 : Nat) ({ cls := "ChannelRules", name := "shareMinute", desc := "(IIII)Z" } : Jvm.MethodName)) ∈ tws := tb_1 (List.mem_of_getElem? (i := 223) rfl) rfl
theorem tw_224 : (Jvm.Cond.static ({ cls := "ChannelRules", name := "shareMinute", desc := "(IIII)Z" } : Jvm.MethodName)) ∈ tws := tb_1 (List.mem_of_getElem? (i := 224) rfl) rfl
theorem tw_225 : (Jvm.Cond.code ({ cls := "ChannelRules", name := "shareMinute", desc := "(IIII)Z" } : Jvm.MethodName) prog_1_method_21_code (4 : Nat) (Option.some Jvm.ClassFile.FieldType.boolean)) ∈ tws := tb_1 (List.mem_of_getElem? (i := 225) rfl) rfl
theorem tw_226 : (Jvm.Cond.methodLink "ChannelRules" (175 : Nat) ({ cls := "ChannelRules$Passages", name := "isForward", desc := "(II)Z" } : Jvm.MethodName)) ∈ tws := tb_1 (List.mem_of_getElem? (i := 226) rfl) rfl
theorem tw_227 : (Jvm.Cond.instanceMethod ({ cls := "ChannelRules$Passages", name := "isForward", desc := "(II)Z" } : Jvm.MethodName)) ∈ tws := tb_1 (List.mem_of_getElem? (i := 227) rfl) rfl
theorem tw_228 : (Jvm.Cond.selects "ChannelRules$Passages" ({ cls := "ChannelRules$Passages", name := "isForward", desc := "(II)Z" } : Jvm.MethodName) ({ cls := "ChannelRules$Passages", name := "isForward", desc := "(II)Z" } : Jvm.MethodName)) ∈ tws := tb_1 (List.mem_of_getElem? (i := 228) rfl) rfl
theorem tw_229 : (Jvm.Cond.code ({ cls := "ChannelRules$Passages", name := "isForward", desc := "(II)Z" } : Jvm.MethodName) prog_2_method_5_code (3 : Nat) (Option.some Jvm.ClassFile.FieldType.boolean)) ∈ tws := tb_1 (List.mem_of_getElem? (i := 229) rfl) rfl
theorem tw_230 : (Jvm.Cond.methodLink "ChannelRules" (248 : Nat) ({ cls := "ChannelRules$Pieces", name := "ruleOf", desc := "(II)I" } : Jvm.MethodName)) ∈ tws := tb_1 (List.mem_of_getElem? (i := 230) rfl) rfl
theorem tw_231 : (Jvm.Cond.instanceMethod ({ cls := "ChannelRules$Pieces", name := "ruleOf", desc := "(II)I" } : Jvm.MethodName)) ∈ tws := tb_1 (List.mem_of_getElem? (i := 231) rfl) rfl
theorem tw_232 : (Jvm.Cond.selects "ChannelRules$Pieces" ({ cls := "ChannelRules$Pieces", name := "ruleOf", desc := "(II)I" } : Jvm.MethodName) ({ cls := "ChannelRules$Pieces", name := "ruleOf", desc := "(II)I" } : Jvm.MethodName)) ∈ tws := tb_1 (List.mem_of_getElem? (i := 232) rfl) rfl
theorem tw_233 : (Jvm.Cond.code ({ cls := "ChannelRules$Pieces", name := "ruleOf", desc := "(II)I" } : Jvm.MethodName) prog_3_method_5_code (3 : Nat) (Option.some Jvm.ClassFile.FieldType.int)) ∈ tws := tb_1 (List.mem_of_getElem? (i := 233) rfl) rfl
theorem tw_234 : (Jvm.Cond.methodLink "ChannelRules" (267 : Nat) ({ cls := "ChannelRules$Passages", name := "isOvertaking", desc := "(IIII)Z" } : Jvm.MethodName)) ∈ tws := tb_1 (List.mem_of_getElem? (i := 234) rfl) rfl
theorem tw_235 : (Jvm.Cond.instanceMethod ({ cls := "ChannelRules$Passages", name := "isOvertaking", desc := "(IIII)Z" } : Jvm.MethodName)) ∈ tws := tb_1 (List.mem_of_getElem? (i := 235) rfl) rfl
theorem tw_236 : (Jvm.Cond.selects "ChannelRules$Passages" ({ cls := "ChannelRules$Passages", name := "isOvertaking", desc := "(IIII)Z" } : Jvm.MethodName) ({ cls := "ChannelRules$Passages", name := "isOvertaking", desc := "(IIII)Z" } : Jvm.MethodName)) ∈ tws := tb_1 (List.mem_of_getElem? (i := 236) rfl) rfl
theorem tw_237 : (Jvm.Cond.code ({ cls := "ChannelRules$Passages", name := "isOvertaking", desc := "(IIII)Z" } : Jvm.MethodName) prog_2_method_9_code (9 : Nat) (Option.some Jvm.ClassFile.FieldType.boolean)) ∈ tws := tb_1 (List.mem_of_getElem? (i := 237) rfl) rfl
theorem tw_238 : (Jvm.Cond.methodLink "ChannelRules$Passages" (45 : Nat) ({ cls := "ChannelRules$Passages", name := "entersAt", desc := "(II)I" } : Jvm.MethodName)) ∈ tws := tb_1 (List.mem_of_getElem? (i := 238) rfl) rfl
theorem tw_239 : (Jvm.Cond.methodLink "ChannelRules$Passages" (49 : Nat) ({ cls := "ChannelRules$Passages", name := "leavesAt", desc := "(II)I" } : Jvm.MethodName)) ∈ tws := tb_1 (List.mem_of_getElem? (i := 239) rfl) rfl
theorem tw_240 : (Jvm.Cond.methodLink "ChannelRules" (182 : Nat) ({ cls := "ChannelRules", name := "givenMark", desc := "(I)I" } : Jvm.MethodName)) ∈ tws := tb_2 (List.mem_of_getElem? (i := 0) rfl) rfl
theorem tw_241 : (Jvm.Cond.privateMethod ({ cls := "ChannelRules", name := "givenMark", desc := "(I)I" } : Jvm.MethodName)) ∈ tws := tb_2 (List.mem_of_getElem? (i := 1) rfl) rfl
theorem tw_242 : (Jvm.Cond.instanceMethod ({ cls := "ChannelRules", name := "givenMark", desc := "(I)I" } : Jvm.MethodName)) ∈ tws := tb_2 (List.mem_of_getElem? (i := 2) rfl) rfl
theorem tw_243 : (Jvm.Cond.code ({ cls := "ChannelRules", name := "givenMark", desc := "(I)I" } : Jvm.MethodName) prog_1_method_16_code (2 : Nat) (Option.some Jvm.ClassFile.FieldType.int)) ∈ tws := tb_2 (List.mem_of_getElem? (i := 3) rfl) rfl
theorem tw_244 : (Jvm.Cond.methodLink "ChannelRulesLaw" (49 : Nat) ({ cls := "ChannelRulesLaw", name := "piece", desc := "(LChannelRules;IIII[J)I" } : Jvm.MethodName)) ∈ tws := tb_2 (List.mem_of_getElem? (i := 4) rfl) rfl
theorem tw_245 : (Jvm.Cond.static ({ cls := "ChannelRulesLaw", name := "piece", desc := "(LChannelRules;IIII[J)I" } : Jvm.MethodName)) ∈ tws := tb_2 (List.mem_of_getElem? (i := 5) rfl) rfl
theorem tw_246 : (Jvm.Cond.codeWith ({ cls := "ChannelRulesLaw", name := "piece", desc := "(LChannelRules;IIII[J)I" } : Jvm.MethodName) method_3_code (7 : Nat) (Option.some Jvm.ClassFile.FieldType.int) [((0 : Nat), (14 : Nat), (17 : Nat), (13 : Nat)), ((0 : Nat), (14 : Nat), (21 : Nat), (15 : Nat))]) ∈ tws := tb_2 (List.mem_of_getElem? (i := 6) rfl) rfl
theorem tw_247 : (Jvm.Cond.classLink "ChannelRulesLaw" (13 : Nat) "java/lang/IllegalArgumentException") ∈ tws := tb_2 (List.mem_of_getElem? (i := 7) rfl) rfl
theorem tw_248 : (Jvm.Cond.classLink "ChannelRulesLaw" (15 : Nat) "java/lang/IllegalStateException") ∈ tws := tb_2 (List.mem_of_getElem? (i := 8) rfl) rfl
theorem tw_249 : (Jvm.Cond.methodLink "ChannelRulesLaw" (7 : Nat) ({ cls := "ChannelRules", name := "piece", desc := "(IIII)I" } : Jvm.MethodName)) ∈ tws := tb_2 (List.mem_of_getElem? (i := 9) rfl) rfl
theorem tw_250 : (Jvm.Cond.instanceMethod ({ cls := "ChannelRules", name := "piece", desc := "(IIII)I" } : Jvm.MethodName)) ∈ tws := tb_2 (List.mem_of_getElem? (i := 10) rfl) rfl
theorem tw_251 : (Jvm.Cond.selects "ChannelRules" ({ cls := "ChannelRules", name := "piece", desc := "(IIII)I" } : Jvm.MethodName) ({ cls := "ChannelRules", name := "piece", desc := "(IIII)I" } : Jvm.MethodName)) ∈ tws := tb_2 (List.mem_of_getElem? (i := 11) rfl) rfl
theorem tw_252 : (Jvm.Cond.code ({ cls := "ChannelRules", name := "piece", desc := "(IIII)I" } : Jvm.MethodName) prog_1_method_2_code (5 : Nat) (Option.some Jvm.ClassFile.FieldType.int)) ∈ tws := tb_2 (List.mem_of_getElem? (i := 12) rfl) rfl
theorem tw_253 : (Jvm.Cond.methodLink "ChannelRules" (45 : Nat) ({ cls := "ChannelRules", name := "isPoint", desc := "(I)Z" } : Jvm.MethodName)) ∈ tws := tb_2 (List.mem_of_getElem? (i := 13) rfl) rfl
theorem tw_254 : (Jvm.Cond.static ({ cls := "ChannelRules", name := "isPoint", desc := "(I)Z" } : Jvm.MethodName)) ∈ tws := tb_2 (List.mem_of_getElem? (i := 14) rfl) rfl
theorem tw_255 : (Jvm.Cond.code ({ cls := "ChannelRules", name := "isPoint", desc := "(I)Z" } : Jvm.MethodName) prog_1_method_18_code (1 : Nat) (Option.some Jvm.ClassFile.FieldType.boolean)) ∈ tws := tb_2 (List.mem_of_getElem? (i := 15) rfl) rfl
theorem tw_256 : (Jvm.Cond.classLink "ChannelRules" (49 : Nat) "java/lang/IllegalArgumentException") ∈ tws := tb_2 (List.mem_of_getElem? (i := 16) rfl) rfl
theorem tw_257 : (Jvm.Cond.instantiable "java/lang/IllegalArgumentException" (6 : Nat)) ∈ tws := tb_2 (List.mem_of_getElem? (i := 17) rfl) rfl
theorem tw_258 : (Jvm.Cond.castable "java/lang/IllegalArgumentException" "java/lang/IllegalArgumentException") ∈ tws := tb_2 (List.mem_of_getElem? (i := 18) rfl) rfl
theorem tw_259 : (Jvm.Cond.declares ({ cls := "java/lang/RuntimeException", name := "<init>", desc := "()V" } : Jvm.MethodName)) ∈ tws := tb_2 (List.mem_of_getElem? (i := 19) rfl) rfl
theorem tw_260 : (Jvm.Cond.declares ({ cls := "java/lang/RuntimeException", name := "<init>", desc := "(Ljava/lang/String;)V" } : Jvm.MethodName)) ∈ tws := tb_2 (List.mem_of_getElem? (i := 20) rfl) rfl
theorem tw_261 : (Jvm.Cond.declares ({ cls := "java/lang/Exception", name := "<init>", desc := "()V" } : Jvm.MethodName)) ∈ tws := tb_2 (List.mem_of_getElem? (i := 21) rfl) rfl
theorem tw_262 : (Jvm.Cond.declares ({ cls := "java/lang/Exception", name := "<init>", desc := "(Ljava/lang/String;)V" } : Jvm.MethodName)) ∈ tws := tb_2 (List.mem_of_getElem? (i := 22) rfl) rfl
theorem tw_263 : (Jvm.Cond.declares ({ cls := "java/lang/Throwable", name := "<init>", desc := "()V" } : Jvm.MethodName)) ∈ tws := tb_2 (List.mem_of_getElem? (i := 23) rfl) rfl
theorem tw_264 : (Jvm.Cond.declares ({ cls := "java/lang/Throwable", name := "<init>", desc := "(Ljava/lang/String;)V" } : Jvm.MethodName)) ∈ tws := tb_2 (List.mem_of_getElem? (i := 24) rfl) rfl
theorem tw_265 : (Jvm.Cond.selects "java/lang/IllegalArgumentException" ({ cls := "java/lang/Throwable", name := "fillInStackTrace", desc := "(I)Ljava/lang/Throwable;" } : Jvm.MethodName) ({ cls := "java/lang/Throwable", name := "fillInStackTrace", desc := "(I)Ljava/lang/Throwable;" } : Jvm.MethodName)) ∈ tws := tb_2 (List.mem_of_getElem? (i := 25) rfl) rfl
theorem tw_266 : (Jvm.Cond.selects "java/lang/IllegalArgumentException" ({ cls := "java/lang/Throwable", name := "fillInStackTrace", desc := "()Ljava/lang/Throwable;" } : Jvm.MethodName) ({ cls := "java/lang/Throwable", name := "fillInStackTrace", desc := "()Ljava/lang/Throwable;" } : Jvm.MethodName)) ∈ tws := tb_2 (List.mem_of_getElem? (i := 26) rfl) rfl
theorem tw_267 : (Jvm.Cond.lays "java/lang/IllegalArgumentException" "java/lang/Throwable" "cause" "Ljava/lang/Throwable;") ∈ tws := tb_2 (List.mem_of_getElem? (i := 27) rfl) rfl
theorem tw_268 : (Jvm.Cond.lays "java/lang/Throwable" "java/lang/Throwable" "cause" "Ljava/lang/Throwable;") ∈ tws := tb_2 (List.mem_of_getElem? (i := 28) rfl) rfl
theorem tw_269 : (Jvm.Cond.lays "java/lang/IllegalArgumentException" "java/lang/Throwable" "stackTrace" "[Ljava/lang/StackTraceElement;") ∈ tws := tb_2 (List.mem_of_getElem? (i := 29) rfl) rfl
theorem tw_270 : (Jvm.Cond.lays "java/lang/Throwable" "java/lang/Throwable" "stackTrace" "[Ljava/lang/StackTraceElement;") ∈ tws := tb_2 (List.mem_of_getElem? (i := 30) rfl) rfl
theorem tw_271 : (Jvm.Cond.lays "java/lang/IllegalArgumentException" "java/lang/Throwable" "suppressedExceptions" "Ljava/util/List;") ∈ tws := tb_2 (List.mem_of_getElem? (i := 31) rfl) rfl
theorem tw_272 : (Jvm.Cond.lays "java/lang/Throwable" "java/lang/Throwable" "suppressedExceptions" "Ljava/util/List;") ∈ tws := tb_2 (List.mem_of_getElem? (i := 32) rfl) rfl
theorem tw_273 : (Jvm.Cond.lays "java/lang/IllegalArgumentException" "java/lang/Throwable" "detailMessage" "Ljava/lang/String;") ∈ tws := tb_2 (List.mem_of_getElem? (i := 33) rfl) rfl
theorem tw_274 : (Jvm.Cond.lays "java/lang/Throwable" "java/lang/Throwable" "detailMessage" "Ljava/lang/String;") ∈ tws := tb_2 (List.mem_of_getElem? (i := 34) rfl) rfl
theorem tw_275 : (Jvm.Cond.lays "java/lang/IllegalArgumentException" "java/lang/Throwable" "backtrace" "Ljava/lang/Object;") ∈ tws := tb_2 (List.mem_of_getElem? (i := 35) rfl) rfl
theorem tw_276 : (Jvm.Cond.lays "java/lang/Throwable" "java/lang/Throwable" "backtrace" "Ljava/lang/Object;") ∈ tws := tb_2 (List.mem_of_getElem? (i := 36) rfl) rfl
theorem tw_277 : (Jvm.Cond.fieldLink "java/lang/Throwable" (198 : Nat) "java/lang/Throwable" "backtrace" "Ljava/lang/Object;") ∈ tws := tb_2 (List.mem_of_getElem? (i := 37) rfl) rfl
theorem tw_278 : (Jvm.Cond.superclass "java/lang/Throwable" "java/lang/Object") ∈ tws := tb_2 (List.mem_of_getElem? (i := 38) rfl) rfl
theorem tw_279 : (Jvm.Cond.instanceMethod ({ cls := "java/lang/Throwable", name := "<init>", desc := "()V" } : Jvm.MethodName)) ∈ tws := tb_2 (List.mem_of_getElem? (i := 39) rfl) rfl
theorem tw_280 : (Jvm.Cond.code ({ cls := "java/lang/Throwable", name := "<init>", desc := "()V" } : Jvm.MethodName) prog_14_method_1_code (1 : Nat) (Option.none : Option Jvm.ClassFile.FieldType)) ∈ tws := tb_2 (List.mem_of_getElem? (i := 40) rfl) rfl
theorem tw_281 : (Jvm.Cond.methodLink "java/lang/Throwable" (1 : Nat) ({ cls := "java/lang/Object", name := "<init>", desc := "()V" } : Jvm.MethodName)) ∈ tws := tb_2 (List.mem_of_getElem? (i := 41) rfl) rfl
theorem tw_282 : (Jvm.Cond.fieldLink "java/lang/Throwable" (13 : Nat) "java/lang/Throwable" "UNASSIGNED_STACK" "[Ljava/lang/StackTraceElement;") ∈ tws := tb_2 (List.mem_of_getElem? (i := 42) rfl) rfl
theorem tx_283 : (Jvm.Cond.laysStatic "java/lang/Throwable" "UNASSIGNED_STACK" "[Ljava/lang/StackTraceElement;") ∈ lw_tbl := List.mem_append_right _ (List.mem_append_right _ (List.mem_append_left _ (List.mem_of_getElem? (i := 43) rfl)))
theorem tw_284 : (Jvm.Cond.fieldLink "java/lang/Throwable" (20 : Nat) "java/lang/Throwable" "SUPPRESSED_SENTINEL" "Ljava/util/List;") ∈ tws := tb_2 (List.mem_of_getElem? (i := 44) rfl) rfl
theorem tx_285 : (Jvm.Cond.laysStatic "java/lang/Throwable" "SUPPRESSED_SENTINEL" "Ljava/util/List;") ∈ lw_tbl := List.mem_append_right _ (List.mem_append_right _ (List.mem_append_left _ (List.mem_of_getElem? (i := 45) rfl)))
theorem tw_286 : (Jvm.Cond.methodLink "java/lang/Throwable" (27 : Nat) ({ cls := "java/lang/Throwable", name := "fillInStackTrace", desc := "()Ljava/lang/Throwable;" } : Jvm.MethodName)) ∈ tws := tb_2 (List.mem_of_getElem? (i := 46) rfl) rfl
theorem tw_287 : (Jvm.Cond.instanceMethod ({ cls := "java/lang/Throwable", name := "fillInStackTrace", desc := "()Ljava/lang/Throwable;" } : Jvm.MethodName)) ∈ tws := tb_2 (List.mem_of_getElem? (i := 47) rfl) rfl
theorem tw_288 : (Jvm.Cond.sameMethod "java/lang/Throwable" "java/lang/Throwable" "fillInStackTrace" "()Ljava/lang/Throwable;") ∈ tws := tb_2 (List.mem_of_getElem? (i := 48) rfl) rfl
theorem tw_289 : (Jvm.Cond.selects "java/lang/IllegalStateException" ({ cls := "java/lang/Throwable", name := "fillInStackTrace", desc := "()Ljava/lang/Throwable;" } : Jvm.MethodName) ({ cls := "java/lang/Throwable", name := "fillInStackTrace", desc := "()Ljava/lang/Throwable;" } : Jvm.MethodName)) ∈ tws := tb_2 (List.mem_of_getElem? (i := 49) rfl) rfl
theorem tw_290 : (Jvm.Cond.selects "java/lang/IndexOutOfBoundsException" ({ cls := "java/lang/Throwable", name := "fillInStackTrace", desc := "()Ljava/lang/Throwable;" } : Jvm.MethodName) ({ cls := "java/lang/Throwable", name := "fillInStackTrace", desc := "()Ljava/lang/Throwable;" } : Jvm.MethodName)) ∈ tws := tb_2 (List.mem_of_getElem? (i := 50) rfl) rfl
theorem tw_291 : (Jvm.Cond.codeSync ({ cls := "java/lang/Throwable", name := "fillInStackTrace", desc := "()Ljava/lang/Throwable;" } : Jvm.MethodName) prog_14_method_18_code (1 : Nat) (Option.some (Jvm.ClassFile.FieldType.object "java/lang/Throwable"))) ∈ tws := tb_2 (List.mem_of_getElem? (i := 51) rfl) rfl
theorem tw_292 : (Jvm.Cond.methodLink "java/lang/Throwable" (202 : Nat) ({ cls := "java/lang/Throwable", name := "fillInStackTrace", desc := "(I)Ljava/lang/Throwable;" } : Jvm.MethodName)) ∈ tws := tb_2 (List.mem_of_getElem? (i := 52) rfl) rfl
theorem tw_293 : (Jvm.Cond.privateMethod ({ cls := "java/lang/Throwable", name := "fillInStackTrace", desc := "(I)Ljava/lang/Throwable;" } : Jvm.MethodName)) ∈ tws := tb_2 (List.mem_of_getElem? (i := 53) rfl) rfl
theorem tw_294 : (Jvm.Cond.instanceMethod ({ cls := "java/lang/Throwable", name := "fillInStackTrace", desc := "(I)Ljava/lang/Throwable;" } : Jvm.MethodName)) ∈ tws := tb_2 (List.mem_of_getElem? (i := 54) rfl) rfl
theorem tw_295 : (Jvm.Cond.instantiable "java/lang/Throwable" (6 : Nat)) ∈ tws := tb_2 (List.mem_of_getElem? (i := 55) rfl) rfl
theorem tw_296 : (Jvm.Cond.native ({ cls := "java/lang/Throwable", name := "fillInStackTrace", desc := "(I)Ljava/lang/Throwable;" } : Jvm.MethodName)) ∈ tws := tb_2 (List.mem_of_getElem? (i := 56) rfl) rfl
theorem tx_297 : (Jvm.Cond.stringRef "ChannelRules" (51 : Nat) "a piece joins two points of 0 to 7") ∈ lw_tbl := List.mem_append_right _ (List.mem_append_right _ (List.mem_append_left _ (List.mem_of_getElem? (i := 57) rfl)))
theorem tw_298 : (Jvm.Cond.methodLink "ChannelRules" (53 : Nat) ({ cls := "java/lang/IllegalArgumentException", name := "<init>", desc := "(Ljava/lang/String;)V" } : Jvm.MethodName)) ∈ tws := tb_2 (List.mem_of_getElem? (i := 58) rfl) rfl
theorem tw_299 : (Jvm.Cond.instanceMethod ({ cls := "java/lang/IllegalArgumentException", name := "<init>", desc := "(Ljava/lang/String;)V" } : Jvm.MethodName)) ∈ tws := tb_2 (List.mem_of_getElem? (i := 59) rfl) rfl
theorem tw_300 : (Jvm.Cond.code ({ cls := "java/lang/IllegalArgumentException", name := "<init>", desc := "(Ljava/lang/String;)V" } : Jvm.MethodName) prog_8_method_2_code (2 : Nat) (Option.none : Option Jvm.ClassFile.FieldType)) ∈ tws := tb_2 (List.mem_of_getElem? (i := 60) rfl) rfl
theorem tw_301 : (Jvm.Cond.methodLink "java/lang/IllegalArgumentException" (7 : Nat) ({ cls := "java/lang/RuntimeException", name := "<init>", desc := "(Ljava/lang/String;)V" } : Jvm.MethodName)) ∈ tws := tb_2 (List.mem_of_getElem? (i := 61) rfl) rfl
theorem tw_302 : (Jvm.Cond.instanceMethod ({ cls := "java/lang/RuntimeException", name := "<init>", desc := "(Ljava/lang/String;)V" } : Jvm.MethodName)) ∈ tws := tb_2 (List.mem_of_getElem? (i := 62) rfl) rfl
theorem tw_303 : (Jvm.Cond.code ({ cls := "java/lang/RuntimeException", name := "<init>", desc := "(Ljava/lang/String;)V" } : Jvm.MethodName) prog_12_method_2_code (2 : Nat) (Option.none : Option Jvm.ClassFile.FieldType)) ∈ tws := tb_2 (List.mem_of_getElem? (i := 63) rfl) rfl
theorem tw_304 : (Jvm.Cond.methodLink "java/lang/RuntimeException" (7 : Nat) ({ cls := "java/lang/Exception", name := "<init>", desc := "(Ljava/lang/String;)V" } : Jvm.MethodName)) ∈ tws := tb_2 (List.mem_of_getElem? (i := 64) rfl) rfl
theorem tw_305 : (Jvm.Cond.instanceMethod ({ cls := "java/lang/Exception", name := "<init>", desc := "(Ljava/lang/String;)V" } : Jvm.MethodName)) ∈ tws := tb_2 (List.mem_of_getElem? (i := 65) rfl) rfl
theorem tw_306 : (Jvm.Cond.code ({ cls := "java/lang/Exception", name := "<init>", desc := "(Ljava/lang/String;)V" } : Jvm.MethodName) prog_7_method_2_code (2 : Nat) (Option.none : Option Jvm.ClassFile.FieldType)) ∈ tws := tb_2 (List.mem_of_getElem? (i := 66) rfl) rfl
theorem tw_307 : (Jvm.Cond.methodLink "java/lang/Exception" (7 : Nat) ({ cls := "java/lang/Throwable", name := "<init>", desc := "(Ljava/lang/String;)V" } : Jvm.MethodName)) ∈ tws := tb_2 (List.mem_of_getElem? (i := 67) rfl) rfl
theorem tw_308 : (Jvm.Cond.instanceMethod ({ cls := "java/lang/Throwable", name := "<init>", desc := "(Ljava/lang/String;)V" } : Jvm.MethodName)) ∈ tws := tb_2 (List.mem_of_getElem? (i := 68) rfl) rfl
theorem tw_309 : (Jvm.Cond.code ({ cls := "java/lang/Throwable", name := "<init>", desc := "(Ljava/lang/String;)V" } : Jvm.MethodName) prog_14_method_2_code (2 : Nat) (Option.none : Option Jvm.ClassFile.FieldType)) ∈ tws := tb_2 (List.mem_of_getElem? (i := 69) rfl) rfl
theorem tw_310 : (Jvm.Cond.fieldLink "java/lang/Throwable" (198 : Nat) "java/lang/Throwable" "backtrace" "Ljava/lang/Object;") ∈ tws := tb_2 (List.mem_of_getElem? (i := 70) rfl) rfl
theorem tw_311 : (Jvm.Cond.fieldLink "java/lang/Throwable" (31 : Nat) "java/lang/Throwable" "detailMessage" "Ljava/lang/String;") ∈ tws := tb_2 (List.mem_of_getElem? (i := 71) rfl) rfl
theorem tw_312 : (Jvm.Cond.fieldLink "java/lang/Throwable" (7 : Nat) "java/lang/Throwable" "cause" "Ljava/lang/Throwable;") ∈ tws := tb_2 (List.mem_of_getElem? (i := 72) rfl) rfl
theorem tw_313 : (Jvm.Cond.fieldLink "java/lang/Throwable" (17 : Nat) "java/lang/Throwable" "stackTrace" "[Ljava/lang/StackTraceElement;") ∈ tws := tb_2 (List.mem_of_getElem? (i := 73) rfl) rfl
theorem tw_314 : (Jvm.Cond.fieldLink "java/lang/Throwable" (24 : Nat) "java/lang/Throwable" "suppressedExceptions" "Ljava/util/List;") ∈ tws := tb_2 (List.mem_of_getElem? (i := 74) rfl) rfl
theorem tw_315 : (Jvm.Cond.soleField "java/lang/Throwable" "backtrace") ∈ tws := tb_2 (List.mem_of_getElem? (i := 75) rfl) rfl
theorem tw_316 : (Jvm.Cond.soleField "java/lang/Throwable" "detailMessage") ∈ tws := tb_2 (List.mem_of_getElem? (i := 76) rfl) rfl
theorem tw_317 : (Jvm.Cond.soleField "java/lang/Throwable" "cause") ∈ tws := tb_2 (List.mem_of_getElem? (i := 77) rfl) rfl
theorem tw_318 : (Jvm.Cond.soleField "java/lang/Throwable" "stackTrace") ∈ tws := tb_2 (List.mem_of_getElem? (i := 78) rfl) rfl
theorem tw_319 : (Jvm.Cond.lays "java/lang/IllegalArgumentException" "java/lang/Throwable" "depth" "I") ∈ tws := tb_2 (List.mem_of_getElem? (i := 79) rfl) rfl
theorem tw_320 : (Jvm.Cond.soleField "java/lang/Throwable" "depth") ∈ tws := tb_2 (List.mem_of_getElem? (i := 80) rfl) rfl
theorem tw_321 : (Jvm.Cond.soleField "java/lang/Throwable" "suppressedExceptions") ∈ tws := tb_2 (List.mem_of_getElem? (i := 81) rfl) rfl
theorem tw_322 : (Jvm.Cond.superclass "java/lang/IllegalArgumentException" "java/lang/RuntimeException") ∈ tws := tb_2 (List.mem_of_getElem? (i := 82) rfl) rfl
theorem tw_323 : (Jvm.Cond.arrayClass Jvm.ClassFile.FieldType.byte) ∈ tws := tb_2 (List.mem_of_getElem? (i := 83) rfl) rfl
theorem tx_324 : (Jvm.Cond.stringRef "ChannelRules" (60 : Nat) "length and width are 1 to 100") ∈ lw_tbl := List.mem_append_right _ (List.mem_append_right _ (List.mem_append_left _ (List.mem_of_getElem? (i := 84) rfl)))
theorem tw_325 : (Jvm.Cond.classLink "ChannelRules" (65 : Nat) "java/lang/IllegalStateException") ∈ tws := tb_2 (List.mem_of_getElem? (i := 85) rfl) rfl
theorem tw_326 : (Jvm.Cond.instantiable "java/lang/IllegalStateException" (6 : Nat)) ∈ tws := tb_2 (List.mem_of_getElem? (i := 86) rfl) rfl
theorem tw_327 : (Jvm.Cond.castable "java/lang/IllegalStateException" "java/lang/IllegalStateException") ∈ tws := tb_2 (List.mem_of_getElem? (i := 87) rfl) rfl
theorem tw_328 : (Jvm.Cond.selects "java/lang/IllegalStateException" ({ cls := "java/lang/Throwable", name := "fillInStackTrace", desc := "(I)Ljava/lang/Throwable;" } : Jvm.MethodName) ({ cls := "java/lang/Throwable", name := "fillInStackTrace", desc := "(I)Ljava/lang/Throwable;" } : Jvm.MethodName)) ∈ tws := tb_2 (List.mem_of_getElem? (i := 88) rfl) rfl
theorem tw_329 : (Jvm.Cond.lays "java/lang/IllegalStateException" "java/lang/Throwable" "cause" "Ljava/lang/Throwable;") ∈ tws := tb_2 (List.mem_of_getElem? (i := 89) rfl) rfl
theorem tw_330 : (Jvm.Cond.lays "java/lang/IllegalStateException" "java/lang/Throwable" "stackTrace" "[Ljava/lang/StackTraceElement;") ∈ tws := tb_2 (List.mem_of_getElem? (i := 90) rfl) rfl
theorem tw_331 : (Jvm.Cond.lays "java/lang/IllegalStateException" "java/lang/Throwable" "suppressedExceptions" "Ljava/util/List;") ∈ tws := tb_2 (List.mem_of_getElem? (i := 91) rfl) rfl
theorem tw_332 : (Jvm.Cond.lays "java/lang/IllegalStateException" "java/lang/Throwable" "detailMessage" "Ljava/lang/String;") ∈ tws := tb_2 (List.mem_of_getElem? (i := 92) rfl) rfl
theorem tw_333 : (Jvm.Cond.lays "java/lang/IllegalStateException" "java/lang/Throwable" "backtrace" "Ljava/lang/Object;") ∈ tws := tb_2 (List.mem_of_getElem? (i := 93) rfl) rfl
theorem tx_334 : (Jvm.Cond.stringRef "ChannelRules" (67 : Nat) "there are 12 pieces") ∈ lw_tbl := List.mem_append_right _ (List.mem_append_right _ (List.mem_append_left _ (List.mem_of_getElem? (i := 94) rfl)))
theorem tw_335 : (Jvm.Cond.methodLink "ChannelRules" (69 : Nat) ({ cls := "java/lang/IllegalStateException", name := "<init>", desc := "(Ljava/lang/String;)V" } : Jvm.MethodName)) ∈ tws := tb_2 (List.mem_of_getElem? (i := 95) rfl) rfl
theorem tw_336 : (Jvm.Cond.instanceMethod ({ cls := "java/lang/IllegalStateException", name := "<init>", desc := "(Ljava/lang/String;)V" } : Jvm.MethodName)) ∈ tws := tb_2 (List.mem_of_getElem? (i := 96) rfl) rfl
theorem tw_337 : (Jvm.Cond.code ({ cls := "java/lang/IllegalStateException", name := "<init>", desc := "(Ljava/lang/String;)V" } : Jvm.MethodName) prog_9_method_2_code (2 : Nat) (Option.none : Option Jvm.ClassFile.FieldType)) ∈ tws := tb_2 (List.mem_of_getElem? (i := 97) rfl) rfl
theorem tw_338 : (Jvm.Cond.methodLink "java/lang/IllegalStateException" (7 : Nat) ({ cls := "java/lang/RuntimeException", name := "<init>", desc := "(Ljava/lang/String;)V" } : Jvm.MethodName)) ∈ tws := tb_2 (List.mem_of_getElem? (i := 98) rfl) rfl
theorem tw_339 : (Jvm.Cond.lays "java/lang/IllegalStateException" "java/lang/Throwable" "depth" "I") ∈ tws := tb_2 (List.mem_of_getElem? (i := 99) rfl) rfl
theorem tw_340 : (Jvm.Cond.superclass "java/lang/IllegalStateException" "java/lang/RuntimeException") ∈ tws := tb_2 (List.mem_of_getElem? (i := 100) rfl) rfl
theorem tw_341 : (Jvm.Cond.methodLink "ChannelRules" (70 : Nat) ({ cls := "ChannelRules$Pieces", name := "add", desc := "(IIII)I" } : Jvm.MethodName)) ∈ tws := tb_2 (List.mem_of_getElem? (i := 101) rfl) rfl
theorem tw_342 : (Jvm.Cond.instanceMethod ({ cls := "ChannelRules$Pieces", name := "add", desc := "(IIII)I" } : Jvm.MethodName)) ∈ tws := tb_2 (List.mem_of_getElem? (i := 102) rfl) rfl
theorem tw_343 : (Jvm.Cond.selects "ChannelRules$Pieces" ({ cls := "ChannelRules$Pieces", name := "add", desc := "(IIII)I" } : Jvm.MethodName) ({ cls := "ChannelRules$Pieces", name := "add", desc := "(IIII)I" } : Jvm.MethodName)) ∈ tws := tb_2 (List.mem_of_getElem? (i := 103) rfl) rfl
theorem tw_344 : (Jvm.Cond.code ({ cls := "ChannelRules$Pieces", name := "add", desc := "(IIII)I" } : Jvm.MethodName) prog_3_method_3_code (6 : Nat) (Option.some Jvm.ClassFile.FieldType.int)) ∈ tws := tb_2 (List.mem_of_getElem? (i := 104) rfl) rfl
theorem tw_345 : (Jvm.Cond.methodLink "ChannelRules$Pieces" (44 : Nat) ({ cls := "ChannelRules$Pieces", name := "setRule", desc := "(III)V" } : Jvm.MethodName)) ∈ tws := tb_2 (List.mem_of_getElem? (i := 105) rfl) rfl
theorem tw_346 : (Jvm.Cond.methodLink "ChannelRulesLaw" (69 : Nat) ({ cls := "ChannelRulesLaw", name := "ship", desc := "(LChannelRules;III[J)I" } : Jvm.MethodName)) ∈ tws := tb_2 (List.mem_of_getElem? (i := 106) rfl) rfl
theorem tw_347 : (Jvm.Cond.static ({ cls := "ChannelRulesLaw", name := "ship", desc := "(LChannelRules;III[J)I" } : Jvm.MethodName)) ∈ tws := tb_2 (List.mem_of_getElem? (i := 107) rfl) rfl
theorem tw_348 : (Jvm.Cond.codeWith ({ cls := "ChannelRulesLaw", name := "ship", desc := "(LChannelRules;III[J)I" } : Jvm.MethodName) method_4_code (6 : Nat) (Option.some Jvm.ClassFile.FieldType.int) [((0 : Nat), (12 : Nat), (15 : Nat), (13 : Nat)), ((0 : Nat), (12 : Nat), (19 : Nat), (15 : Nat))]) ∈ tws := tb_2 (List.mem_of_getElem? (i := 108) rfl) rfl
theorem tw_349 : (Jvm.Cond.methodLink "ChannelRulesLaw" (17 : Nat) ({ cls := "ChannelRules", name := "ship", desc := "(III)I" } : Jvm.MethodName)) ∈ tws := tb_2 (List.mem_of_getElem? (i := 109) rfl) rfl
theorem tw_350 : (Jvm.Cond.instanceMethod ({ cls := "ChannelRules", name := "ship", desc := "(III)I" } : Jvm.MethodName)) ∈ tws := tb_2 (List.mem_of_getElem? (i := 110) rfl) rfl
theorem tw_351 : (Jvm.Cond.selects "ChannelRules" ({ cls := "ChannelRules", name := "ship", desc := "(III)I" } : Jvm.MethodName) ({ cls := "ChannelRules", name := "ship", desc := "(III)I" } : Jvm.MethodName)) ∈ tws := tb_2 (List.mem_of_getElem? (i := 111) rfl) rfl
theorem tw_352 : (Jvm.Cond.code ({ cls := "ChannelRules", name := "ship", desc := "(III)I" } : Jvm.MethodName) prog_1_method_5_code (4 : Nat) (Option.some Jvm.ClassFile.FieldType.int)) ∈ tws := tb_2 (List.mem_of_getElem? (i := 112) rfl) rfl
theorem tx_353 : (Jvm.Cond.stringRef "ChannelRules" (84 : Nat) "width is 1 to 100, speed 1 to 20, class 0 to 2") ∈ lw_tbl := List.mem_append_right _ (List.mem_append_right _ (List.mem_append_left _ (List.mem_of_getElem? (i := 113) rfl)))
theorem tx_354 : (Jvm.Cond.stringRef "ChannelRules" (87 : Nat) "there are 12 ships") ∈ lw_tbl := List.mem_append_right _ (List.mem_append_right _ (List.mem_append_left _ (List.mem_of_getElem? (i := 114) rfl)))
theorem tw_355 : (Jvm.Cond.methodLink "ChannelRules" (89 : Nat) ({ cls := "ChannelRules$Ships", name := "add", desc := "(III)I" } : Jvm.MethodName)) ∈ tws := tb_2 (List.mem_of_getElem? (i := 115) rfl) rfl
theorem tw_356 : (Jvm.Cond.instanceMethod ({ cls := "ChannelRules$Ships", name := "add", desc := "(III)I" } : Jvm.MethodName)) ∈ tws := tb_2 (List.mem_of_getElem? (i := 116) rfl) rfl
theorem tw_357 : (Jvm.Cond.selects "ChannelRules$Ships" ({ cls := "ChannelRules$Ships", name := "add", desc := "(III)I" } : Jvm.MethodName) ({ cls := "ChannelRules$Ships", name := "add", desc := "(III)I" } : Jvm.MethodName)) ∈ tws := tb_2 (List.mem_of_getElem? (i := 117) rfl) rfl
theorem tw_358 : (Jvm.Cond.code ({ cls := "ChannelRules$Ships", name := "add", desc := "(III)I" } : Jvm.MethodName) prog_4_method_3_code (5 : Nat) (Option.some Jvm.ClassFile.FieldType.int)) ∈ tws := tb_2 (List.mem_of_getElem? (i := 118) rfl) rfl
theorem tw_359 : (Jvm.Cond.methodLink "ChannelRulesLaw" (73 : Nat) ({ cls := "ChannelRulesLaw", name := "route", desc := "(LChannelRules;IIII[J)I" } : Jvm.MethodName)) ∈ tws := tb_2 (List.mem_of_getElem? (i := 119) rfl) rfl
theorem tw_360 : (Jvm.Cond.static ({ cls := "ChannelRulesLaw", name := "route", desc := "(LChannelRules;IIII[J)I" } : Jvm.MethodName)) ∈ tws := tb_2 (List.mem_of_getElem? (i := 120) rfl) rfl
theorem tw_361 : (Jvm.Cond.codeWith ({ cls := "ChannelRulesLaw", name := "route", desc := "(LChannelRules;IIII[J)I" } : Jvm.MethodName) method_5_code (7 : Nat) (Option.some Jvm.ClassFile.FieldType.int) [((0 : Nat), (14 : Nat), (17 : Nat), (13 : Nat))]) ∈ tws := tb_2 (List.mem_of_getElem? (i := 121) rfl) rfl
theorem tw_362 : (Jvm.Cond.methodLink "ChannelRulesLaw" (21 : Nat) ({ cls := "ChannelRules", name := "route", desc := "(IIII)I" } : Jvm.MethodName)) ∈ tws := tb_2 (List.mem_of_getElem? (i := 122) rfl) rfl
theorem tw_363 : (Jvm.Cond.instanceMethod ({ cls := "ChannelRules", name := "route", desc := "(IIII)I" } : Jvm.MethodName)) ∈ tws := tb_2 (List.mem_of_getElem? (i := 123) rfl) rfl
theorem tw_364 : (Jvm.Cond.selects "ChannelRules" ({ cls := "ChannelRules", name := "route", desc := "(IIII)I" } : Jvm.MethodName) ({ cls := "ChannelRules", name := "route", desc := "(IIII)I" } : Jvm.MethodName)) ∈ tws := tb_2 (List.mem_of_getElem? (i := 124) rfl) rfl
theorem tw_365 : (Jvm.Cond.code ({ cls := "ChannelRules", name := "route", desc := "(IIII)I" } : Jvm.MethodName) prog_1_method_6_code (5 : Nat) (Option.some Jvm.ClassFile.FieldType.int)) ∈ tws := tb_2 (List.mem_of_getElem? (i := 125) rfl) rfl
theorem tw_366 : (Jvm.Cond.methodLink "ChannelRules" (92 : Nat) ({ cls := "ChannelRules", name := "isVoyage", desc := "(III)Z" } : Jvm.MethodName)) ∈ tws := tb_2 (List.mem_of_getElem? (i := 126) rfl) rfl
theorem tw_367 : (Jvm.Cond.privateMethod ({ cls := "ChannelRules", name := "isVoyage", desc := "(III)Z" } : Jvm.MethodName)) ∈ tws := tb_2 (List.mem_of_getElem? (i := 127) rfl) rfl
theorem tw_368 : (Jvm.Cond.instanceMethod ({ cls := "ChannelRules", name := "isVoyage", desc := "(III)Z" } : Jvm.MethodName)) ∈ tws := tb_2 (List.mem_of_getElem? (i := 128) rfl) rfl
theorem tw_369 : (Jvm.Cond.code ({ cls := "ChannelRules", name := "isVoyage", desc := "(III)Z" } : Jvm.MethodName) prog_1_method_19_code (4 : Nat) (Option.some Jvm.ClassFile.FieldType.boolean)) ∈ tws := tb_2 (List.mem_of_getElem? (i := 129) rfl) rfl
theorem tw_370 : (Jvm.Cond.methodLink "ChannelRules" (185 : Nat) ({ cls := "ChannelRules$Ships", name := "has", desc := "(I)Z" } : Jvm.MethodName)) ∈ tws := tb_2 (List.mem_of_getElem? (i := 130) rfl) rfl
theorem tw_371 : (Jvm.Cond.instanceMethod ({ cls := "ChannelRules$Ships", name := "has", desc := "(I)Z" } : Jvm.MethodName)) ∈ tws := tb_2 (List.mem_of_getElem? (i := 131) rfl) rfl
theorem tw_372 : (Jvm.Cond.selects "ChannelRules$Ships" ({ cls := "ChannelRules$Ships", name := "has", desc := "(I)Z" } : Jvm.MethodName) ({ cls := "ChannelRules$Ships", name := "has", desc := "(I)Z" } : Jvm.MethodName)) ∈ tws := tb_2 (List.mem_of_getElem? (i := 132) rfl) rfl
theorem tw_373 : (Jvm.Cond.code ({ cls := "ChannelRules$Ships", name := "has", desc := "(I)Z" } : Jvm.MethodName) prog_4_method_2_code (2 : Nat) (Option.some Jvm.ClassFile.FieldType.boolean)) ∈ tws := tb_2 (List.mem_of_getElem? (i := 133) rfl) rfl
theorem tw_374 : (Jvm.Cond.methodLinkNest "ChannelRules$Ships" (25 : Nat) ({ cls := "ChannelRules", name := "isWithin", desc := "(III)Z" } : Jvm.MethodName) "ChannelRules") ∈ tws := tb_2 (List.mem_of_getElem? (i := 134) rfl) rfl
theorem tx_375 : (Jvm.Cond.stringRef "ChannelRules" (95 : Nat) "no such ship, points or what") ∈ lw_tbl := List.mem_append_right _ (List.mem_append_right _ (List.mem_append_left _ (List.mem_of_getElem? (i := 135) rfl)))
theorem tw_376 : (Jvm.Cond.methodLink "ChannelRules" (97 : Nat) ({ cls := "ChannelRules", name := "planRoute", desc := "(III)Z" } : Jvm.MethodName)) ∈ tws := tb_2 (List.mem_of_getElem? (i := 136) rfl) rfl
theorem tw_377 : (Jvm.Cond.privateMethod ({ cls := "ChannelRules", name := "planRoute", desc := "(III)Z" } : Jvm.MethodName)) ∈ tws := tb_2 (List.mem_of_getElem? (i := 137) rfl) rfl
theorem tw_378 : (Jvm.Cond.instanceMethod ({ cls := "ChannelRules", name := "planRoute", desc := "(III)Z" } : Jvm.MethodName)) ∈ tws := tb_2 (List.mem_of_getElem? (i := 138) rfl) rfl
theorem tw_379 : (Jvm.Cond.code ({ cls := "ChannelRules", name := "planRoute", desc := "(III)Z" } : Jvm.MethodName) prog_1_method_22_code (7 : Nat) (Option.some Jvm.ClassFile.FieldType.boolean)) ∈ tws := tb_2 (List.mem_of_getElem? (i := 139) rfl) rfl
theorem tw_380 : (Jvm.Cond.methodLink "ChannelRules" (186 : Nat) ({ cls := "ChannelRules$Passages", name := "startPlan", desc := "(I)V" } : Jvm.MethodName)) ∈ tws := tb_2 (List.mem_of_getElem? (i := 140) rfl) rfl
theorem tw_381 : (Jvm.Cond.instanceMethod ({ cls := "ChannelRules$Passages", name := "startPlan", desc := "(I)V" } : Jvm.MethodName)) ∈ tws := tb_2 (List.mem_of_getElem? (i := 141) rfl) rfl
theorem tw_382 : (Jvm.Cond.selects "ChannelRules$Passages" ({ cls := "ChannelRules$Passages", name := "startPlan", desc := "(I)V" } : Jvm.MethodName) ({ cls := "ChannelRules$Passages", name := "startPlan", desc := "(I)V" } : Jvm.MethodName)) ∈ tws := tb_2 (List.mem_of_getElem? (i := 142) rfl) rfl
theorem tw_383 : (Jvm.Cond.code ({ cls := "ChannelRules$Passages", name := "startPlan", desc := "(I)V" } : Jvm.MethodName) prog_2_method_10_code (3 : Nat) (Option.none : Option Jvm.ClassFile.FieldType)) ∈ tws := tb_2 (List.mem_of_getElem? (i := 143) rfl) rfl
theorem tw_384 : (Jvm.Cond.methodLink "ChannelRules" (190 : Nat) ({ cls := "ChannelRules", name := "measureTimeLeft", desc := "(II)V" } : Jvm.MethodName)) ∈ tws := tb_2 (List.mem_of_getElem? (i := 144) rfl) rfl
theorem tw_385 : (Jvm.Cond.privateMethod ({ cls := "ChannelRules", name := "measureTimeLeft", desc := "(II)V" } : Jvm.MethodName)) ∈ tws := tb_2 (List.mem_of_getElem? (i := 145) rfl) rfl
theorem tw_386 : (Jvm.Cond.instanceMethod ({ cls := "ChannelRules", name := "measureTimeLeft", desc := "(II)V" } : Jvm.MethodName)) ∈ tws := tb_2 (List.mem_of_getElem? (i := 146) rfl) rfl
theorem tw_387 : (Jvm.Cond.code ({ cls := "ChannelRules", name := "measureTimeLeft", desc := "(II)V" } : Jvm.MethodName) prog_1_method_23_code (5 : Nat) (Option.none : Option Jvm.ClassFile.FieldType)) ∈ tws := tb_2 (List.mem_of_getElem? (i := 147) rfl) rfl
theorem tw_388 : (Jvm.Cond.constant "ChannelRules" (210 : Nat) (1000000 : Int32)) ∈ tws := tb_2 (List.mem_of_getElem? (i := 148) rfl) rfl
theorem tw_389 : (Jvm.Cond.methodLink "ChannelRules" (211 : Nat) ({ cls := "ChannelRules", name := "fits", desc := "(II)Z" } : Jvm.MethodName)) ∈ tws := tb_2 (List.mem_of_getElem? (i := 149) rfl) rfl
theorem tw_390 : (Jvm.Cond.privateMethod ({ cls := "ChannelRules", name := "fits", desc := "(II)Z" } : Jvm.MethodName)) ∈ tws := tb_2 (List.mem_of_getElem? (i := 150) rfl) rfl
theorem tw_391 : (Jvm.Cond.instanceMethod ({ cls := "ChannelRules", name := "fits", desc := "(II)Z" } : Jvm.MethodName)) ∈ tws := tb_2 (List.mem_of_getElem? (i := 151) rfl) rfl
theorem tw_392 : (Jvm.Cond.code ({ cls := "ChannelRules", name := "fits", desc := "(II)Z" } : Jvm.MethodName) prog_1_method_26_code (3 : Nat) (Option.some Jvm.ClassFile.FieldType.boolean)) ∈ tws := tb_2 (List.mem_of_getElem? (i := 152) rfl) rfl
theorem tw_393 : (Jvm.Cond.methodLink "ChannelRules" (200 : Nat) ({ cls := "ChannelRules", name := "travelTime", desc := "(II)I" } : Jvm.MethodName)) ∈ tws := tb_2 (List.mem_of_getElem? (i := 153) rfl) rfl
theorem tw_394 : (Jvm.Cond.privateMethod ({ cls := "ChannelRules", name := "travelTime", desc := "(II)I" } : Jvm.MethodName)) ∈ tws := tb_2 (List.mem_of_getElem? (i := 154) rfl) rfl
theorem tw_395 : (Jvm.Cond.instanceMethod ({ cls := "ChannelRules", name := "travelTime", desc := "(II)I" } : Jvm.MethodName)) ∈ tws := tb_2 (List.mem_of_getElem? (i := 155) rfl) rfl
theorem tw_396 : (Jvm.Cond.code ({ cls := "ChannelRules", name := "travelTime", desc := "(II)I" } : Jvm.MethodName) prog_1_method_27_code (4 : Nat) (Option.some Jvm.ClassFile.FieldType.int)) ∈ tws := tb_2 (List.mem_of_getElem? (i := 156) rfl) rfl
theorem tw_397 : (Jvm.Cond.methodLink "ChannelRules" (214 : Nat) ({ cls := "ChannelRules", name := "shortenBy", desc := "(II)V" } : Jvm.MethodName)) ∈ tws := tb_2 (List.mem_of_getElem? (i := 157) rfl) rfl
theorem tw_398 : (Jvm.Cond.privateMethod ({ cls := "ChannelRules", name := "shortenBy", desc := "(II)V" } : Jvm.MethodName)) ∈ tws := tb_2 (List.mem_of_getElem? (i := 158) rfl) rfl
theorem tw_399 : (Jvm.Cond.instanceMethod ({ cls := "ChannelRules", name := "shortenBy", desc := "(II)V" } : Jvm.MethodName)) ∈ tws := tb_2 (List.mem_of_getElem? (i := 159) rfl) rfl
theorem tw_400 : (Jvm.Cond.code ({ cls := "ChannelRules", name := "shortenBy", desc := "(II)V" } : Jvm.MethodName) prog_1_method_24_code (5 : Nat) (Option.none : Option Jvm.ClassFile.FieldType)) ∈ tws := tb_2 (List.mem_of_getElem? (i := 160) rfl) rfl
theorem tw_401 : (Jvm.Cond.methodLink "ChannelRules" (126 : Nat) ({ cls := "java/lang/Math", name := "min", desc := "(II)I" } : Jvm.MethodName)) ∈ tws := tb_2 (List.mem_of_getElem? (i := 161) rfl) rfl
theorem tw_402 : (Jvm.Cond.static ({ cls := "java/lang/Math", name := "min", desc := "(II)I" } : Jvm.MethodName)) ∈ tws := tb_2 (List.mem_of_getElem? (i := 162) rfl) rfl
theorem tw_403 : (Jvm.Cond.code ({ cls := "java/lang/Math", name := "min", desc := "(II)I" } : Jvm.MethodName) prog_11_method_69_code (2 : Nat) (Option.some Jvm.ClassFile.FieldType.int)) ∈ tws := tb_2 (List.mem_of_getElem? (i := 163) rfl) rfl
theorem tw_404 : (Jvm.Cond.methodLink "ChannelRules" (194 : Nat) ({ cls := "ChannelRules", name := "nextPiece", desc := "(II)I" } : Jvm.MethodName)) ∈ tws := tb_2 (List.mem_of_getElem? (i := 164) rfl) rfl
theorem tw_405 : (Jvm.Cond.privateMethod ({ cls := "ChannelRules", name := "nextPiece", desc := "(II)I" } : Jvm.MethodName)) ∈ tws := tb_2 (List.mem_of_getElem? (i := 165) rfl) rfl
theorem tw_406 : (Jvm.Cond.instanceMethod ({ cls := "ChannelRules", name := "nextPiece", desc := "(II)I" } : Jvm.MethodName)) ∈ tws := tb_2 (List.mem_of_getElem? (i := 166) rfl) rfl
theorem tw_407 : (Jvm.Cond.code ({ cls := "ChannelRules", name := "nextPiece", desc := "(II)I" } : Jvm.MethodName) prog_1_method_25_code (5 : Nat) (Option.some Jvm.ClassFile.FieldType.int)) ∈ tws := tb_2 (List.mem_of_getElem? (i := 167) rfl) rfl
theorem tw_408 : (Jvm.Cond.methodLink "ChannelRules" (207 : Nat) ({ cls := "ChannelRules$Pieces", name := "otherEnd", desc := "(II)I" } : Jvm.MethodName)) ∈ tws := tb_2 (List.mem_of_getElem? (i := 168) rfl) rfl
theorem tw_409 : (Jvm.Cond.instanceMethod ({ cls := "ChannelRules$Pieces", name := "otherEnd", desc := "(II)I" } : Jvm.MethodName)) ∈ tws := tb_2 (List.mem_of_getElem? (i := 169) rfl) rfl
theorem tw_410 : (Jvm.Cond.selects "ChannelRules$Pieces" ({ cls := "ChannelRules$Pieces", name := "otherEnd", desc := "(II)I" } : Jvm.MethodName) ({ cls := "ChannelRules$Pieces", name := "otherEnd", desc := "(II)I" } : Jvm.MethodName)) ∈ tws := tb_2 (List.mem_of_getElem? (i := 170) rfl) rfl
theorem tw_411 : (Jvm.Cond.code ({ cls := "ChannelRules$Pieces", name := "otherEnd", desc := "(II)I" } : Jvm.MethodName) prog_3_method_4_code (3 : Nat) (Option.some Jvm.ClassFile.FieldType.int)) ∈ tws := tb_2 (List.mem_of_getElem? (i := 171) rfl) rfl
theorem tw_412 : (Jvm.Cond.methodLink "ChannelRules" (203 : Nat) ({ cls := "ChannelRules$Passages", name := "addStay", desc := "(IZI)V" } : Jvm.MethodName)) ∈ tws := tb_2 (List.mem_of_getElem? (i := 172) rfl) rfl
theorem tw_413 : (Jvm.Cond.instanceMethod ({ cls := "ChannelRules$Passages", name := "addStay", desc := "(IZI)V" } : Jvm.MethodName)) ∈ tws := tb_2 (List.mem_of_getElem? (i := 173) rfl) rfl
theorem tw_414 : (Jvm.Cond.selects "ChannelRules$Passages" ({ cls := "ChannelRules$Passages", name := "addStay", desc := "(IZI)V" } : Jvm.MethodName) ({ cls := "ChannelRules$Passages", name := "addStay", desc := "(IZI)V" } : Jvm.MethodName)) ∈ tws := tb_2 (List.mem_of_getElem? (i := 174) rfl) rfl
theorem tw_415 : (Jvm.Cond.code ({ cls := "ChannelRules$Passages", name := "addStay", desc := "(IZI)V" } : Jvm.MethodName) prog_2_method_11_code (5 : Nat) (Option.none : Option Jvm.ClassFile.FieldType)) ∈ tws := tb_2 (List.mem_of_getElem? (i := 175) rfl) rfl
theorem tw_416 : (Jvm.Cond.methodLink "ChannelRulesLaw" (76 : Nat) ({ cls := "ChannelRulesLaw", name := "ask", desc := "(LChannelRules;IIII[J)I" } : Jvm.MethodName)) ∈ tws := tb_2 (List.mem_of_getElem? (i := 176) rfl) rfl
theorem tw_417 : (Jvm.Cond.static ({ cls := "ChannelRulesLaw", name := "ask", desc := "(LChannelRules;IIII[J)I" } : Jvm.MethodName)) ∈ tws := tb_2 (List.mem_of_getElem? (i := 177) rfl) rfl
theorem tw_418 : (Jvm.Cond.codeWith ({ cls := "ChannelRulesLaw", name := "ask", desc := "(LChannelRules;IIII[J)I" } : Jvm.MethodName) method_6_code (7 : Nat) (Option.some Jvm.ClassFile.FieldType.int) [((0 : Nat), (14 : Nat), (17 : Nat), (13 : Nat)), ((0 : Nat), (14 : Nat), (21 : Nat), (15 : Nat))]) ∈ tws := tb_2 (List.mem_of_getElem? (i := 178) rfl) rfl
theorem tw_419 : (Jvm.Cond.methodLink "ChannelRulesLaw" (24 : Nat) ({ cls := "ChannelRules", name := "ask", desc := "(IIII)I" } : Jvm.MethodName)) ∈ tws := tb_2 (List.mem_of_getElem? (i := 179) rfl) rfl
theorem tw_420 : (Jvm.Cond.instanceMethod ({ cls := "ChannelRules", name := "ask", desc := "(IIII)I" } : Jvm.MethodName)) ∈ tws := tb_2 (List.mem_of_getElem? (i := 180) rfl) rfl
theorem tw_421 : (Jvm.Cond.selects "ChannelRules" ({ cls := "ChannelRules", name := "ask", desc := "(IIII)I" } : Jvm.MethodName) ({ cls := "ChannelRules", name := "ask", desc := "(IIII)I" } : Jvm.MethodName)) ∈ tws := tb_2 (List.mem_of_getElem? (i := 181) rfl) rfl
theorem tw_422 : (Jvm.Cond.code ({ cls := "ChannelRules", name := "ask", desc := "(IIII)I" } : Jvm.MethodName) prog_1_method_7_code (6 : Nat) (Option.some Jvm.ClassFile.FieldType.int)) ∈ tws := tb_2 (List.mem_of_getElem? (i := 182) rfl) rfl
theorem tx_423 : (Jvm.Cond.stringRef "ChannelRules" (108 : Nat) "no such ship or points, or not such a time") ∈ lw_tbl := List.mem_append_right _ (List.mem_append_right _ (List.mem_append_left _ (List.mem_of_getElem? (i := 183) rfl)))
theorem tx_424 : (Jvm.Cond.stringRef "ChannelRules" (113 : Nat) "there are 30 slots") ∈ lw_tbl := List.mem_append_right _ (List.mem_append_right _ (List.mem_append_left _ (List.mem_of_getElem? (i := 184) rfl)))
theorem tw_425 : (Jvm.Cond.methodLink "ChannelRules" (118 : Nat) ({ cls := "ChannelRules", name := "firstBar", desc := "(I)I" } : Jvm.MethodName)) ∈ tws := tb_2 (List.mem_of_getElem? (i := 185) rfl) rfl
theorem tw_426 : (Jvm.Cond.privateMethod ({ cls := "ChannelRules", name := "firstBar", desc := "(I)I" } : Jvm.MethodName)) ∈ tws := tb_2 (List.mem_of_getElem? (i := 186) rfl) rfl
theorem tw_427 : (Jvm.Cond.instanceMethod ({ cls := "ChannelRules", name := "firstBar", desc := "(I)I" } : Jvm.MethodName)) ∈ tws := tb_2 (List.mem_of_getElem? (i := 187) rfl) rfl
theorem tw_428 : (Jvm.Cond.code ({ cls := "ChannelRules", name := "firstBar", desc := "(I)I" } : Jvm.MethodName) prog_1_method_28_code (4 : Nat) (Option.some Jvm.ClassFile.FieldType.int)) ∈ tws := tb_2 (List.mem_of_getElem? (i := 188) rfl) rfl
theorem tw_429 : (Jvm.Cond.methodLink "ChannelRules" (230 : Nat) ({ cls := "ChannelRules", name := "barByPiece", desc := "(II)I" } : Jvm.MethodName)) ∈ tws := tb_2 (List.mem_of_getElem? (i := 189) rfl) rfl
theorem tw_430 : (Jvm.Cond.privateMethod ({ cls := "ChannelRules", name := "barByPiece", desc := "(II)I" } : Jvm.MethodName)) ∈ tws := tb_2 (List.mem_of_getElem? (i := 190) rfl) rfl
theorem tw_431 : (Jvm.Cond.instanceMethod ({ cls := "ChannelRules", name := "barByPiece", desc := "(II)I" } : Jvm.MethodName)) ∈ tws := tb_2 (List.mem_of_getElem? (i := 191) rfl) rfl
theorem tw_432 : (Jvm.Cond.code ({ cls := "ChannelRules", name := "barByPiece", desc := "(II)I" } : Jvm.MethodName) prog_1_method_29_code (6 : Nat) (Option.some Jvm.ClassFile.FieldType.int)) ∈ tws := tb_2 (List.mem_of_getElem? (i := 192) rfl) rfl
theorem tw_433 : (Jvm.Cond.methodLink "ChannelRules" (236 : Nat) ({ cls := "ChannelRules", name := "isAgainstOneWay", desc := "(II)Z" } : Jvm.MethodName)) ∈ tws := tb_2 (List.mem_of_getElem? (i := 193) rfl) rfl
theorem tw_434 : (Jvm.Cond.privateMethod ({ cls := "ChannelRules", name := "isAgainstOneWay", desc := "(II)Z" } : Jvm.MethodName)) ∈ tws := tb_2 (List.mem_of_getElem? (i := 194) rfl) rfl
theorem tw_435 : (Jvm.Cond.instanceMethod ({ cls := "ChannelRules", name := "isAgainstOneWay", desc := "(II)Z" } : Jvm.MethodName)) ∈ tws := tb_2 (List.mem_of_getElem? (i := 195) rfl) rfl
theorem tw_436 : (Jvm.Cond.code ({ cls := "ChannelRules", name := "isAgainstOneWay", desc := "(II)Z" } : Jvm.MethodName) prog_1_method_30_code (4 : Nat) (Option.some Jvm.ClassFile.FieldType.boolean)) ∈ tws := tb_2 (List.mem_of_getElem? (i := 196) rfl) rfl
theorem tw_437 : (Jvm.Cond.methodLink "ChannelRules" (239 : Nat) ({ cls := "ChannelRules", name := "isBarredAtNight", desc := "(II)Z" } : Jvm.MethodName)) ∈ tws := tb_2 (List.mem_of_getElem? (i := 197) rfl) rfl
theorem tw_438 : (Jvm.Cond.privateMethod ({ cls := "ChannelRules", name := "isBarredAtNight", desc := "(II)Z" } : Jvm.MethodName)) ∈ tws := tb_2 (List.mem_of_getElem? (i := 198) rfl) rfl
theorem tw_439 : (Jvm.Cond.instanceMethod ({ cls := "ChannelRules", name := "isBarredAtNight", desc := "(II)Z" } : Jvm.MethodName)) ∈ tws := tb_2 (List.mem_of_getElem? (i := 199) rfl) rfl
theorem tw_440 : (Jvm.Cond.code ({ cls := "ChannelRules", name := "isBarredAtNight", desc := "(II)Z" } : Jvm.MethodName) prog_1_method_31_code (7 : Nat) (Option.some Jvm.ClassFile.FieldType.boolean)) ∈ tws := tb_2 (List.mem_of_getElem? (i := 200) rfl) rfl
theorem tw_441 : (Jvm.Cond.methodLink "ChannelRules" (242 : Nat) ({ cls := "ChannelRules", name := "isBarredInWind", desc := "(II)Z" } : Jvm.MethodName)) ∈ tws := tb_2 (List.mem_of_getElem? (i := 201) rfl) rfl
theorem tw_442 : (Jvm.Cond.privateMethod ({ cls := "ChannelRules", name := "isBarredInWind", desc := "(II)Z" } : Jvm.MethodName)) ∈ tws := tb_2 (List.mem_of_getElem? (i := 202) rfl) rfl
theorem tw_443 : (Jvm.Cond.instanceMethod ({ cls := "ChannelRules", name := "isBarredInWind", desc := "(II)Z" } : Jvm.MethodName)) ∈ tws := tb_2 (List.mem_of_getElem? (i := 203) rfl) rfl
theorem tw_444 : (Jvm.Cond.code ({ cls := "ChannelRules", name := "isBarredInWind", desc := "(II)Z" } : Jvm.MethodName) prog_1_method_32_code (4 : Nat) (Option.some Jvm.ClassFile.FieldType.boolean)) ∈ tws := tb_2 (List.mem_of_getElem? (i := 204) rfl) rfl
theorem tw_445 : (Jvm.Cond.methodLink "ChannelRules" (245 : Nat) ({ cls := "ChannelRules$Pieces", name := "closedFor", desc := "(III)I" } : Jvm.MethodName)) ∈ tws := tb_2 (List.mem_of_getElem? (i := 205) rfl) rfl
theorem tw_446 : (Jvm.Cond.instanceMethod ({ cls := "ChannelRules$Pieces", name := "closedFor", desc := "(III)I" } : Jvm.MethodName)) ∈ tws := tb_2 (List.mem_of_getElem? (i := 206) rfl) rfl
theorem tw_447 : (Jvm.Cond.selects "ChannelRules$Pieces" ({ cls := "ChannelRules$Pieces", name := "closedFor", desc := "(III)I" } : Jvm.MethodName) ({ cls := "ChannelRules$Pieces", name := "closedFor", desc := "(III)I" } : Jvm.MethodName)) ∈ tws := tb_2 (List.mem_of_getElem? (i := 207) rfl) rfl
theorem tw_448 : (Jvm.Cond.code ({ cls := "ChannelRules$Pieces", name := "closedFor", desc := "(III)I" } : Jvm.MethodName) prog_3_method_8_code (7 : Nat) (Option.some Jvm.ClassFile.FieldType.int)) ∈ tws := tb_2 (List.mem_of_getElem? (i := 208) rfl) rfl
theorem tw_449 : (Jvm.Cond.methodLinkNest "ChannelRules$Pieces" (48 : Nat) ({ cls := "ChannelRules", name := "shareMinute", desc := "(IIII)Z" } : Jvm.MethodName) "ChannelRules") ∈ tws := tb_2 (List.mem_of_getElem? (i := 209) rfl) rfl
theorem tw_450 : (Jvm.Cond.methodLink "ChannelRules$Pieces" (52 : Nat) ({ cls := "java/lang/Math", name := "max", desc := "(II)I" } : Jvm.MethodName)) ∈ tws := tb_2 (List.mem_of_getElem? (i := 210) rfl) rfl
theorem tw_451 : (Jvm.Cond.static ({ cls := "java/lang/Math", name := "max", desc := "(II)I" } : Jvm.MethodName)) ∈ tws := tb_2 (List.mem_of_getElem? (i := 211) rfl) rfl
theorem tw_452 : (Jvm.Cond.code ({ cls := "java/lang/Math", name := "max", desc := "(II)I" } : Jvm.MethodName) prog_11_method_65_code (2 : Nat) (Option.some Jvm.ClassFile.FieldType.int)) ∈ tws := tb_2 (List.mem_of_getElem? (i := 212) rfl) rfl
theorem tw_453 : (Jvm.Cond.methodLink "ChannelRules" (233 : Nat) ({ cls := "ChannelRules", name := "barBySlots", desc := "(II)I" } : Jvm.MethodName)) ∈ tws := tb_2 (List.mem_of_getElem? (i := 213) rfl) rfl
theorem tw_454 : (Jvm.Cond.privateMethod ({ cls := "ChannelRules", name := "barBySlots", desc := "(II)I" } : Jvm.MethodName)) ∈ tws := tb_2 (List.mem_of_getElem? (i := 214) rfl) rfl
theorem tw_455 : (Jvm.Cond.instanceMethod ({ cls := "ChannelRules", name := "barBySlots", desc := "(II)I" } : Jvm.MethodName)) ∈ tws := tb_2 (List.mem_of_getElem? (i := 215) rfl) rfl
theorem tw_456 : (Jvm.Cond.code ({ cls := "ChannelRules", name := "barBySlots", desc := "(II)I" } : Jvm.MethodName) prog_1_method_33_code (6 : Nat) (Option.some Jvm.ClassFile.FieldType.int)) ∈ tws := tb_2 (List.mem_of_getElem? (i := 216) rfl) rfl
theorem tw_457 : (Jvm.Cond.methodLink "ChannelRules" (122 : Nat) ({ cls := "ChannelRules$Passages", name := "giveSlot", desc := "()I" } : Jvm.MethodName)) ∈ tws := tb_2 (List.mem_of_getElem? (i := 217) rfl) rfl
theorem tw_458 : (Jvm.Cond.instanceMethod ({ cls := "ChannelRules$Passages", name := "giveSlot", desc := "()I" } : Jvm.MethodName)) ∈ tws := tb_2 (List.mem_of_getElem? (i := 218) rfl) rfl
theorem tw_459 : (Jvm.Cond.selects "ChannelRules$Passages" ({ cls := "ChannelRules$Passages", name := "giveSlot", desc := "()I" } : Jvm.MethodName) ({ cls := "ChannelRules$Passages", name := "giveSlot", desc := "()I" } : Jvm.MethodName)) ∈ tws := tb_2 (List.mem_of_getElem? (i := 219) rfl) rfl
theorem tw_460 : (Jvm.Cond.code ({ cls := "ChannelRules$Passages", name := "giveSlot", desc := "()I" } : Jvm.MethodName) prog_2_method_12_code (3 : Nat) (Option.some Jvm.ClassFile.FieldType.int)) ∈ tws := tb_2 (List.mem_of_getElem? (i := 220) rfl) rfl
theorem tw_461 : (Jvm.Cond.methodLink "ChannelRules$Passages" (52 : Nat) ({ cls := "ChannelRules$Passages", name := "pieceOf", desc := "(II)I" } : Jvm.MethodName)) ∈ tws := tb_2 (List.mem_of_getElem? (i := 221) rfl) rfl
theorem tw_462 : (Jvm.Cond.methodLink "ChannelRules$Passages" (55 : Nat) ({ cls := "ChannelRules$Passages", name := "isForward", desc := "(II)Z" } : Jvm.MethodName)) ∈ tws := tb_2 (List.mem_of_getElem? (i := 222) rfl) rfl
theorem tw_463 : (Jvm.Cond.methodLink "ChannelRulesLaw" (79 : Nat) ({ cls := "ChannelRulesLaw", name := "earliest", desc := "(LChannelRules;IIII[J)I" } : Jvm.MethodName)) ∈ tws := tb_2 (List.mem_of_getElem? (i := 223) rfl) rfl
theorem tw_464 : (Jvm.Cond.static ({ cls := "ChannelRulesLaw", name := "earliest", desc := "(LChannelRules;IIII[J)I" } : Jvm.MethodName)) ∈ tws := tb_2 (List.mem_of_getElem? (i := 224) rfl) rfl
theorem tw_465 : (Jvm.Cond.codeWith ({ cls := "ChannelRulesLaw", name := "earliest", desc := "(LChannelRules;IIII[J)I" } : Jvm.MethodName) method_7_code (7 : Nat) (Option.some Jvm.ClassFile.FieldType.int) [((0 : Nat), (14 : Nat), (17 : Nat), (13 : Nat))]) ∈ tws := tb_2 (List.mem_of_getElem? (i := 225) rfl) rfl
theorem tw_466 : (Jvm.Cond.methodLink "ChannelRulesLaw" (27 : Nat) ({ cls := "ChannelRules", name := "earliest", desc := "(IIII)I" } : Jvm.MethodName)) ∈ tws := tb_2 (List.mem_of_getElem? (i := 226) rfl) rfl
theorem tw_467 : (Jvm.Cond.instanceMethod ({ cls := "ChannelRules", name := "earliest", desc := "(IIII)I" } : Jvm.MethodName)) ∈ tws := tb_2 (List.mem_of_getElem? (i := 227) rfl) rfl
theorem tw_468 : (Jvm.Cond.selects "ChannelRules" ({ cls := "ChannelRules", name := "earliest", desc := "(IIII)I" } : Jvm.MethodName) ({ cls := "ChannelRules", name := "earliest", desc := "(IIII)I" } : Jvm.MethodName)) ∈ tws := tb_2 (List.mem_of_getElem? (i := 228) rfl) rfl
theorem tw_469 : (Jvm.Cond.code ({ cls := "ChannelRules", name := "earliest", desc := "(IIII)I" } : Jvm.MethodName) prog_1_method_8_code (8 : Nat) (Option.some Jvm.ClassFile.FieldType.int)) ∈ tws := tb_2 (List.mem_of_getElem? (i := 229) rfl) rfl
theorem tw_470 : (Jvm.Cond.methodLink "ChannelRules" (131 : Nat) ({ cls := "ChannelRules", name := "planWait", desc := "()I" } : Jvm.MethodName)) ∈ tws := tb_2 (List.mem_of_getElem? (i := 230) rfl) rfl
theorem tw_471 : (Jvm.Cond.privateMethod ({ cls := "ChannelRules", name := "planWait", desc := "()I" } : Jvm.MethodName)) ∈ tws := tb_2 (List.mem_of_getElem? (i := 231) rfl) rfl
theorem tw_472 : (Jvm.Cond.instanceMethod ({ cls := "ChannelRules", name := "planWait", desc := "()I" } : Jvm.MethodName)) ∈ tws := tb_2 (List.mem_of_getElem? (i := 232) rfl) rfl
theorem tw_473 : (Jvm.Cond.code ({ cls := "ChannelRules", name := "planWait", desc := "()I" } : Jvm.MethodName) prog_1_method_35_code (3 : Nat) (Option.some Jvm.ClassFile.FieldType.int)) ∈ tws := tb_2 (List.mem_of_getElem? (i := 233) rfl) rfl
theorem tw_474 : (Jvm.Cond.methodLink "ChannelRules" (270 : Nat) ({ cls := "ChannelRules", name := "planWaitByPiece", desc := "(I)I" } : Jvm.MethodName)) ∈ tws := tb_2 (List.mem_of_getElem? (i := 234) rfl) rfl
theorem tw_475 : (Jvm.Cond.privateMethod ({ cls := "ChannelRules", name := "planWaitByPiece", desc := "(I)I" } : Jvm.MethodName)) ∈ tws := tb_2 (List.mem_of_getElem? (i := 235) rfl) rfl
theorem tw_476 : (Jvm.Cond.instanceMethod ({ cls := "ChannelRules", name := "planWaitByPiece", desc := "(I)I" } : Jvm.MethodName)) ∈ tws := tb_2 (List.mem_of_getElem? (i := 236) rfl) rfl
theorem tw_477 : (Jvm.Cond.code ({ cls := "ChannelRules", name := "planWaitByPiece", desc := "(I)I" } : Jvm.MethodName) prog_1_method_36_code (5 : Nat) (Option.some Jvm.ClassFile.FieldType.int)) ∈ tws := tb_2 (List.mem_of_getElem? (i := 237) rfl) rfl
theorem tw_478 : (Jvm.Cond.methodLink "ChannelRules" (279 : Nat) ({ cls := "ChannelRules", name := "minutesToMorning", desc := "(I)I" } : Jvm.MethodName)) ∈ tws := tb_2 (List.mem_of_getElem? (i := 238) rfl) rfl
theorem tw_479 : (Jvm.Cond.static ({ cls := "ChannelRules", name := "minutesToMorning", desc := "(I)I" } : Jvm.MethodName)) ∈ tws := tb_2 (List.mem_of_getElem? (i := 239) rfl) rfl
theorem tw_480 : (Jvm.Cond.code ({ cls := "ChannelRules", name := "minutesToMorning", desc := "(I)I" } : Jvm.MethodName) prog_1_method_37_code (1 : Nat) (Option.some Jvm.ClassFile.FieldType.int)) ∈ tws := tb_3 (List.mem_of_getElem? (i := 0) rfl) rfl
theorem tw_481 : (Jvm.Cond.methodLink "ChannelRules" (282 : Nat) ({ cls := "java/lang/Math", name := "floorMod", desc := "(II)I" } : Jvm.MethodName)) ∈ tws := tb_3 (List.mem_of_getElem? (i := 1) rfl) rfl
theorem tw_482 : (Jvm.Cond.static ({ cls := "java/lang/Math", name := "floorMod", desc := "(II)I" } : Jvm.MethodName)) ∈ tws := tb_3 (List.mem_of_getElem? (i := 2) rfl) rfl
theorem tw_483 : (Jvm.Cond.code ({ cls := "java/lang/Math", name := "floorMod", desc := "(II)I" } : Jvm.MethodName) prog_11_method_50_code (3 : Nat) (Option.some Jvm.ClassFile.FieldType.int)) ∈ tws := tb_3 (List.mem_of_getElem? (i := 3) rfl) rfl
theorem tw_484 : (Jvm.Cond.methodLink "ChannelRules" (276 : Nat) ({ cls := "java/lang/Math", name := "max", desc := "(II)I" } : Jvm.MethodName)) ∈ tws := tb_3 (List.mem_of_getElem? (i := 4) rfl) rfl
theorem tw_485 : (Jvm.Cond.methodLink "ChannelRules" (273 : Nat) ({ cls := "ChannelRules", name := "planWaitBySlots", desc := "(I)I" } : Jvm.MethodName)) ∈ tws := tb_3 (List.mem_of_getElem? (i := 5) rfl) rfl
theorem tw_486 : (Jvm.Cond.privateMethod ({ cls := "ChannelRules", name := "planWaitBySlots", desc := "(I)I" } : Jvm.MethodName)) ∈ tws := tb_3 (List.mem_of_getElem? (i := 6) rfl) rfl
theorem tw_487 : (Jvm.Cond.instanceMethod ({ cls := "ChannelRules", name := "planWaitBySlots", desc := "(I)I" } : Jvm.MethodName)) ∈ tws := tb_3 (List.mem_of_getElem? (i := 7) rfl) rfl
theorem tw_488 : (Jvm.Cond.code ({ cls := "ChannelRules", name := "planWaitBySlots", desc := "(I)I" } : Jvm.MethodName) prog_1_method_38_code (4 : Nat) (Option.some Jvm.ClassFile.FieldType.int)) ∈ tws := tb_3 (List.mem_of_getElem? (i := 8) rfl) rfl
theorem tw_489 : (Jvm.Cond.methodLink "ChannelRules" (285 : Nat) ({ cls := "ChannelRules", name := "planWaitFor", desc := "(II)I" } : Jvm.MethodName)) ∈ tws := tb_3 (List.mem_of_getElem? (i := 9) rfl) rfl
theorem tw_490 : (Jvm.Cond.privateMethod ({ cls := "ChannelRules", name := "planWaitFor", desc := "(II)I" } : Jvm.MethodName)) ∈ tws := tb_3 (List.mem_of_getElem? (i := 10) rfl) rfl
theorem tw_491 : (Jvm.Cond.instanceMethod ({ cls := "ChannelRules", name := "planWaitFor", desc := "(II)I" } : Jvm.MethodName)) ∈ tws := tb_3 (List.mem_of_getElem? (i := 11) rfl) rfl
theorem tw_492 : (Jvm.Cond.code ({ cls := "ChannelRules", name := "planWaitFor", desc := "(II)I" } : Jvm.MethodName) prog_1_method_39_code (8 : Nat) (Option.some Jvm.ClassFile.FieldType.int)) ∈ tws := tb_3 (List.mem_of_getElem? (i := 12) rfl) rfl
theorem tw_493 : (Jvm.Cond.methodLink "ChannelRulesLaw" (82 : Nat) ({ cls := "ChannelRulesLaw", name := "change", desc := "(LChannelRules;II[J)I" } : Jvm.MethodName)) ∈ tws := tb_3 (List.mem_of_getElem? (i := 13) rfl) rfl
theorem tw_494 : (Jvm.Cond.static ({ cls := "ChannelRulesLaw", name := "change", desc := "(LChannelRules;II[J)I" } : Jvm.MethodName)) ∈ tws := tb_3 (List.mem_of_getElem? (i := 14) rfl) rfl
theorem tw_495 : (Jvm.Cond.codeWith ({ cls := "ChannelRulesLaw", name := "change", desc := "(LChannelRules;II[J)I" } : Jvm.MethodName) method_8_code (5 : Nat) (Option.some Jvm.ClassFile.FieldType.int) [((0 : Nat), (10 : Nat), (13 : Nat), (13 : Nat))]) ∈ tws := tb_3 (List.mem_of_getElem? (i := 15) rfl) rfl
theorem tw_496 : (Jvm.Cond.methodLink "ChannelRulesLaw" (30 : Nat) ({ cls := "ChannelRules", name := "change", desc := "(II)I" } : Jvm.MethodName)) ∈ tws := tb_3 (List.mem_of_getElem? (i := 16) rfl) rfl
theorem tw_497 : (Jvm.Cond.instanceMethod ({ cls := "ChannelRules", name := "change", desc := "(II)I" } : Jvm.MethodName)) ∈ tws := tb_3 (List.mem_of_getElem? (i := 17) rfl) rfl
theorem tw_498 : (Jvm.Cond.selects "ChannelRules" ({ cls := "ChannelRules", name := "change", desc := "(II)I" } : Jvm.MethodName) ({ cls := "ChannelRules", name := "change", desc := "(II)I" } : Jvm.MethodName)) ∈ tws := tb_3 (List.mem_of_getElem? (i := 18) rfl) rfl
theorem tw_499 : (Jvm.Cond.code ({ cls := "ChannelRules", name := "change", desc := "(II)I" } : Jvm.MethodName) prog_1_method_9_code (4 : Nat) (Option.some Jvm.ClassFile.FieldType.int)) ∈ tws := tb_3 (List.mem_of_getElem? (i := 19) rfl) rfl
theorem tx_500 : (Jvm.Cond.stringRef "ChannelRules" (137 : Nat) "no such slot, or not such a time") ∈ lw_tbl := List.mem_append_right _ (List.mem_append_right _ (List.mem_append_right _ (List.mem_append_left _ (List.mem_of_getElem? (i := 20) rfl))))
theorem tw_501 : (Jvm.Cond.methodLink "ChannelRulesLaw" (91 : Nat) ({ cls := "ChannelRulesLaw", name := "close", desc := "(LChannelRules;III[J)I" } : Jvm.MethodName)) ∈ tws := tb_3 (List.mem_of_getElem? (i := 21) rfl) rfl
theorem tw_502 : (Jvm.Cond.static ({ cls := "ChannelRulesLaw", name := "close", desc := "(LChannelRules;III[J)I" } : Jvm.MethodName)) ∈ tws := tb_3 (List.mem_of_getElem? (i := 22) rfl) rfl
theorem tw_503 : (Jvm.Cond.codeWith ({ cls := "ChannelRulesLaw", name := "close", desc := "(LChannelRules;III[J)I" } : Jvm.MethodName) method_9_code (6 : Nat) (Option.some Jvm.ClassFile.FieldType.int) [((0 : Nat), (12 : Nat), (15 : Nat), (13 : Nat)), ((0 : Nat), (12 : Nat), (19 : Nat), (15 : Nat))]) ∈ tws := tb_3 (List.mem_of_getElem? (i := 23) rfl) rfl
theorem tw_504 : (Jvm.Cond.methodLink "ChannelRulesLaw" (34 : Nat) ({ cls := "ChannelRules", name := "close", desc := "(III)I" } : Jvm.MethodName)) ∈ tws := tb_3 (List.mem_of_getElem? (i := 24) rfl) rfl
theorem tw_505 : (Jvm.Cond.instanceMethod ({ cls := "ChannelRules", name := "close", desc := "(III)I" } : Jvm.MethodName)) ∈ tws := tb_3 (List.mem_of_getElem? (i := 25) rfl) rfl
theorem tw_506 : (Jvm.Cond.selects "ChannelRules" ({ cls := "ChannelRules", name := "close", desc := "(III)I" } : Jvm.MethodName) ({ cls := "ChannelRules", name := "close", desc := "(III)I" } : Jvm.MethodName)) ∈ tws := tb_3 (List.mem_of_getElem? (i := 26) rfl) rfl
theorem tw_507 : (Jvm.Cond.code ({ cls := "ChannelRules", name := "close", desc := "(III)I" } : Jvm.MethodName) prog_1_method_11_code (4 : Nat) (Option.some Jvm.ClassFile.FieldType.int)) ∈ tws := tb_3 (List.mem_of_getElem? (i := 27) rfl) rfl
theorem tx_508 : (Jvm.Cond.stringRef "ChannelRules" (146 : Nat) "no such piece, or not such times") ∈ lw_tbl := List.mem_append_right _ (List.mem_append_right _ (List.mem_append_right _ (List.mem_append_left _ (List.mem_of_getElem? (i := 28) rfl))))
theorem tx_509 : (Jvm.Cond.stringRef "ChannelRules" (151 : Nat) "the piece has 4 closed spans") ∈ lw_tbl := List.mem_append_right _ (List.mem_append_right _ (List.mem_append_right _ (List.mem_append_left _ (List.mem_of_getElem? (i := 29) rfl))))
theorem tw_510 : (Jvm.Cond.methodLink "ChannelRules" (153 : Nat) ({ cls := "ChannelRules$Pieces", name := "addSpan", desc := "(III)V" } : Jvm.MethodName)) ∈ tws := tb_3 (List.mem_of_getElem? (i := 30) rfl) rfl
theorem tw_511 : (Jvm.Cond.instanceMethod ({ cls := "ChannelRules$Pieces", name := "addSpan", desc := "(III)V" } : Jvm.MethodName)) ∈ tws := tb_3 (List.mem_of_getElem? (i := 31) rfl) rfl
theorem tw_512 : (Jvm.Cond.selects "ChannelRules$Pieces" ({ cls := "ChannelRules$Pieces", name := "addSpan", desc := "(III)V" } : Jvm.MethodName) ({ cls := "ChannelRules$Pieces", name := "addSpan", desc := "(III)V" } : Jvm.MethodName)) ∈ tws := tb_3 (List.mem_of_getElem? (i := 32) rfl) rfl
theorem tw_513 : (Jvm.Cond.code ({ cls := "ChannelRules$Pieces", name := "addSpan", desc := "(III)V" } : Jvm.MethodName) prog_3_method_7_code (5 : Nat) (Option.none : Option Jvm.ClassFile.FieldType)) ∈ tws := tb_3 (List.mem_of_getElem? (i := 33) rfl) rfl
theorem tw_514 : (Jvm.Cond.methodLink "ChannelRules" (156 : Nat) ({ cls := "ChannelRules", name := "endSlotsOn", desc := "(III)I" } : Jvm.MethodName)) ∈ tws := tb_3 (List.mem_of_getElem? (i := 34) rfl) rfl
theorem tw_515 : (Jvm.Cond.privateMethod ({ cls := "ChannelRules", name := "endSlotsOn", desc := "(III)I" } : Jvm.MethodName)) ∈ tws := tb_3 (List.mem_of_getElem? (i := 35) rfl) rfl
theorem tw_516 : (Jvm.Cond.instanceMethod ({ cls := "ChannelRules", name := "endSlotsOn", desc := "(III)I" } : Jvm.MethodName)) ∈ tws := tb_3 (List.mem_of_getElem? (i := 36) rfl) rfl
theorem tw_517 : (Jvm.Cond.code ({ cls := "ChannelRules", name := "endSlotsOn", desc := "(III)I" } : Jvm.MethodName) prog_1_method_40_code (7 : Nat) (Option.some Jvm.ClassFile.FieldType.int)) ∈ tws := tb_3 (List.mem_of_getElem? (i := 37) rfl) rfl
theorem tw_518 : (Jvm.Cond.methodLink "ChannelRulesLaw" (98 : Nat) ({ cls := "ChannelRulesLaw", name := "conflict", desc := "(LChannelRules;II[J)I" } : Jvm.MethodName)) ∈ tws := tb_3 (List.mem_of_getElem? (i := 38) rfl) rfl
theorem tw_519 : (Jvm.Cond.static ({ cls := "ChannelRulesLaw", name := "conflict", desc := "(LChannelRules;II[J)I" } : Jvm.MethodName)) ∈ tws := tb_3 (List.mem_of_getElem? (i := 39) rfl) rfl
theorem tw_520 : (Jvm.Cond.codeWith ({ cls := "ChannelRulesLaw", name := "conflict", desc := "(LChannelRules;II[J)I" } : Jvm.MethodName) method_10_code (5 : Nat) (Option.some Jvm.ClassFile.FieldType.int) [((0 : Nat), (10 : Nat), (13 : Nat), (13 : Nat))]) ∈ tws := tb_3 (List.mem_of_getElem? (i := 40) rfl) rfl
theorem tw_521 : (Jvm.Cond.methodLink "ChannelRulesLaw" (37 : Nat) ({ cls := "ChannelRules", name := "conflict", desc := "(II)I" } : Jvm.MethodName)) ∈ tws := tb_3 (List.mem_of_getElem? (i := 41) rfl) rfl
theorem tw_522 : (Jvm.Cond.instanceMethod ({ cls := "ChannelRules", name := "conflict", desc := "(II)I" } : Jvm.MethodName)) ∈ tws := tb_3 (List.mem_of_getElem? (i := 42) rfl) rfl
theorem tw_523 : (Jvm.Cond.selects "ChannelRules" ({ cls := "ChannelRules", name := "conflict", desc := "(II)I" } : Jvm.MethodName) ({ cls := "ChannelRules", name := "conflict", desc := "(II)I" } : Jvm.MethodName)) ∈ tws := tb_3 (List.mem_of_getElem? (i := 43) rfl) rfl
theorem tw_524 : (Jvm.Cond.code ({ cls := "ChannelRules", name := "conflict", desc := "(II)I" } : Jvm.MethodName) prog_1_method_13_code (3 : Nat) (Option.some Jvm.ClassFile.FieldType.int)) ∈ tws := tb_3 (List.mem_of_getElem? (i := 44) rfl) rfl
theorem tx_525 : (Jvm.Cond.stringRef "ChannelRules" (159 : Nat) "no such side") ∈ lw_tbl := List.mem_append_right _ (List.mem_append_right _ (List.mem_append_right _ (List.mem_append_left _ (List.mem_of_getElem? (i := 45) rfl))))
theorem tw_526 : (Jvm.Cond.methodLink "ChannelRulesLaw" (101 : Nat) ({ cls := "ChannelRulesLaw", name := "at", desc := "(LChannelRules;III[J)I" } : Jvm.MethodName)) ∈ tws := tb_3 (List.mem_of_getElem? (i := 46) rfl) rfl
theorem tw_527 : (Jvm.Cond.static ({ cls := "ChannelRulesLaw", name := "at", desc := "(LChannelRules;III[J)I" } : Jvm.MethodName)) ∈ tws := tb_3 (List.mem_of_getElem? (i := 47) rfl) rfl
theorem tw_528 : (Jvm.Cond.codeWith ({ cls := "ChannelRulesLaw", name := "at", desc := "(LChannelRules;III[J)I" } : Jvm.MethodName) method_11_code (6 : Nat) (Option.some Jvm.ClassFile.FieldType.int) [((0 : Nat), (12 : Nat), (15 : Nat), (43 : Nat))]) ∈ tws := tb_3 (List.mem_of_getElem? (i := 48) rfl) rfl
theorem tw_529 : (Jvm.Cond.classLink "ChannelRulesLaw" (43 : Nat) "java/lang/IndexOutOfBoundsException") ∈ tws := tb_3 (List.mem_of_getElem? (i := 49) rfl) rfl
theorem tw_530 : (Jvm.Cond.methodLink "ChannelRulesLaw" (40 : Nat) ({ cls := "ChannelRules", name := "at", desc := "(III)I" } : Jvm.MethodName)) ∈ tws := tb_3 (List.mem_of_getElem? (i := 50) rfl) rfl
theorem tw_531 : (Jvm.Cond.instanceMethod ({ cls := "ChannelRules", name := "at", desc := "(III)I" } : Jvm.MethodName)) ∈ tws := tb_3 (List.mem_of_getElem? (i := 51) rfl) rfl
theorem tw_532 : (Jvm.Cond.selects "ChannelRules" ({ cls := "ChannelRules", name := "at", desc := "(III)I" } : Jvm.MethodName) ({ cls := "ChannelRules", name := "at", desc := "(III)I" } : Jvm.MethodName)) ∈ tws := tb_3 (List.mem_of_getElem? (i := 52) rfl) rfl
theorem tw_533 : (Jvm.Cond.code ({ cls := "ChannelRules", name := "at", desc := "(III)I" } : Jvm.MethodName) prog_1_method_14_code (4 : Nat) (Option.some Jvm.ClassFile.FieldType.int)) ∈ tws := tb_3 (List.mem_of_getElem? (i := 53) rfl) rfl
theorem tw_534 : (Jvm.Cond.classLink "ChannelRules" (164 : Nat) "java/lang/IndexOutOfBoundsException") ∈ tws := tb_3 (List.mem_of_getElem? (i := 54) rfl) rfl
theorem tw_535 : (Jvm.Cond.instantiable "java/lang/IndexOutOfBoundsException" (6 : Nat)) ∈ tws := tb_3 (List.mem_of_getElem? (i := 55) rfl) rfl
theorem tw_536 : (Jvm.Cond.castable "java/lang/IndexOutOfBoundsException" "java/lang/IndexOutOfBoundsException") ∈ tws := tb_3 (List.mem_of_getElem? (i := 56) rfl) rfl
theorem tw_537 : (Jvm.Cond.selects "java/lang/IndexOutOfBoundsException" ({ cls := "java/lang/Throwable", name := "fillInStackTrace", desc := "(I)Ljava/lang/Throwable;" } : Jvm.MethodName) ({ cls := "java/lang/Throwable", name := "fillInStackTrace", desc := "(I)Ljava/lang/Throwable;" } : Jvm.MethodName)) ∈ tws := tb_3 (List.mem_of_getElem? (i := 57) rfl) rfl
theorem tw_538 : (Jvm.Cond.lays "java/lang/IndexOutOfBoundsException" "java/lang/Throwable" "cause" "Ljava/lang/Throwable;") ∈ tws := tb_3 (List.mem_of_getElem? (i := 58) rfl) rfl
theorem tw_539 : (Jvm.Cond.lays "java/lang/IndexOutOfBoundsException" "java/lang/Throwable" "stackTrace" "[Ljava/lang/StackTraceElement;") ∈ tws := tb_3 (List.mem_of_getElem? (i := 59) rfl) rfl
theorem tw_540 : (Jvm.Cond.lays "java/lang/IndexOutOfBoundsException" "java/lang/Throwable" "suppressedExceptions" "Ljava/util/List;") ∈ tws := tb_3 (List.mem_of_getElem? (i := 60) rfl) rfl
theorem tw_541 : (Jvm.Cond.lays "java/lang/IndexOutOfBoundsException" "java/lang/Throwable" "detailMessage" "Ljava/lang/String;") ∈ tws := tb_3 (List.mem_of_getElem? (i := 61) rfl) rfl
theorem tw_542 : (Jvm.Cond.lays "java/lang/IndexOutOfBoundsException" "java/lang/Throwable" "backtrace" "Ljava/lang/Object;") ∈ tws := tb_3 (List.mem_of_getElem? (i := 62) rfl) rfl
theorem tx_543 : (Jvm.Cond.stringRef "ChannelRules" (166 : Nat) "no such slot, stay or what") ∈ lw_tbl := List.mem_append_right _ (List.mem_append_right _ (List.mem_append_right _ (List.mem_append_left _ (List.mem_of_getElem? (i := 63) rfl))))
theorem tw_544 : (Jvm.Cond.methodLink "ChannelRules" (168 : Nat) ({ cls := "java/lang/IndexOutOfBoundsException", name := "<init>", desc := "(Ljava/lang/String;)V" } : Jvm.MethodName)) ∈ tws := tb_3 (List.mem_of_getElem? (i := 64) rfl) rfl
theorem tw_545 : (Jvm.Cond.instanceMethod ({ cls := "java/lang/IndexOutOfBoundsException", name := "<init>", desc := "(Ljava/lang/String;)V" } : Jvm.MethodName)) ∈ tws := tb_3 (List.mem_of_getElem? (i := 65) rfl) rfl
theorem tw_546 : (Jvm.Cond.code ({ cls := "java/lang/IndexOutOfBoundsException", name := "<init>", desc := "(Ljava/lang/String;)V" } : Jvm.MethodName) prog_10_method_2_code (2 : Nat) (Option.none : Option Jvm.ClassFile.FieldType)) ∈ tws := tb_3 (List.mem_of_getElem? (i := 66) rfl) rfl
theorem tw_547 : (Jvm.Cond.methodLink "java/lang/IndexOutOfBoundsException" (7 : Nat) ({ cls := "java/lang/RuntimeException", name := "<init>", desc := "(Ljava/lang/String;)V" } : Jvm.MethodName)) ∈ tws := tb_3 (List.mem_of_getElem? (i := 67) rfl) rfl
theorem tw_548 : (Jvm.Cond.lays "java/lang/IndexOutOfBoundsException" "java/lang/Throwable" "depth" "I") ∈ tws := tb_3 (List.mem_of_getElem? (i := 68) rfl) rfl
theorem tw_549 : (Jvm.Cond.superclass "java/lang/IndexOutOfBoundsException" "java/lang/RuntimeException") ∈ tws := tb_3 (List.mem_of_getElem? (i := 69) rfl) rfl
theorem tw_550 : (Jvm.Cond.classLink "ChannelRulesLaw" (46 : Nat) "ChannelRulesModel") ∈ tws := tb_3 (List.mem_of_getElem? (i := 70) rfl) rfl
theorem tw_551 : (Jvm.Cond.instantiable "ChannelRulesModel" (24 : Nat)) ∈ tws := tb_3 (List.mem_of_getElem? (i := 71) rfl) rfl
theorem tw_552 : (Jvm.Cond.methodLink "ChannelRulesLaw" (48 : Nat) ({ cls := "ChannelRulesModel", name := "<init>", desc := "()V" } : Jvm.MethodName)) ∈ tws := tb_3 (List.mem_of_getElem? (i := 72) rfl) rfl
theorem tw_553 : (Jvm.Cond.instanceMethod ({ cls := "ChannelRulesModel", name := "<init>", desc := "()V" } : Jvm.MethodName)) ∈ tws := tb_3 (List.mem_of_getElem? (i := 73) rfl) rfl
theorem tw_554 : (Jvm.Cond.code ({ cls := "ChannelRulesModel", name := "<init>", desc := "()V" } : Jvm.MethodName) prog_6_method_1_code (1 : Nat) (Option.none : Option Jvm.ClassFile.FieldType)) ∈ tws := tb_3 (List.mem_of_getElem? (i := 74) rfl) rfl
theorem tw_555 : (Jvm.Cond.methodLink "ChannelRulesModel" (1 : Nat) ({ cls := "java/lang/Object", name := "<init>", desc := "()V" } : Jvm.MethodName)) ∈ tws := tb_3 (List.mem_of_getElem? (i := 75) rfl) rfl
theorem tw_556 : (Jvm.Cond.fieldLink "ChannelRulesModel" (65 : Nat) "ChannelRulesModel" "thrown" "I") ∈ tws := tb_3 (List.mem_of_getElem? (i := 76) rfl) rfl
theorem tw_557 : (Jvm.Cond.fieldLink "ChannelRulesModel" (69 : Nat) "ChannelRulesModel" "pieces" "I") ∈ tws := tb_3 (List.mem_of_getElem? (i := 77) rfl) rfl
theorem tw_558 : (Jvm.Cond.fieldLink "ChannelRulesModel" (7 : Nat) "ChannelRulesModel" "first" "[I") ∈ tws := tb_3 (List.mem_of_getElem? (i := 78) rfl) rfl
theorem tw_559 : (Jvm.Cond.fieldLink "ChannelRulesModel" (13 : Nat) "ChannelRulesModel" "second" "[I") ∈ tws := tb_3 (List.mem_of_getElem? (i := 79) rfl) rfl
theorem tw_560 : (Jvm.Cond.fieldLink "ChannelRulesModel" (16 : Nat) "ChannelRulesModel" "length" "[I") ∈ tws := tb_3 (List.mem_of_getElem? (i := 80) rfl) rfl
theorem tw_561 : (Jvm.Cond.fieldLink "ChannelRulesModel" (19 : Nat) "ChannelRulesModel" "wide" "[I") ∈ tws := tb_3 (List.mem_of_getElem? (i := 81) rfl) rfl
theorem tw_562 : (Jvm.Cond.fieldLink "ChannelRulesModel" (22 : Nat) "ChannelRulesModel" "rules" "[I") ∈ tws := tb_3 (List.mem_of_getElem? (i := 82) rfl) rfl
theorem tw_563 : (Jvm.Cond.fieldLink "ChannelRulesModel" (25 : Nat) "ChannelRulesModel" "spans" "[I") ∈ tws := tb_3 (List.mem_of_getElem? (i := 83) rfl) rfl
theorem tw_564 : (Jvm.Cond.fieldLink "ChannelRulesModel" (28 : Nat) "ChannelRulesModel" "spanFrom" "[I") ∈ tws := tb_3 (List.mem_of_getElem? (i := 84) rfl) rfl
theorem tw_565 : (Jvm.Cond.fieldLink "ChannelRulesModel" (31 : Nat) "ChannelRulesModel" "spanTo" "[I") ∈ tws := tb_3 (List.mem_of_getElem? (i := 85) rfl) rfl
theorem tw_566 : (Jvm.Cond.fieldLink "ChannelRulesModel" (72 : Nat) "ChannelRulesModel" "ships" "I") ∈ tws := tb_3 (List.mem_of_getElem? (i := 86) rfl) rfl
theorem tw_567 : (Jvm.Cond.fieldLink "ChannelRulesModel" (34 : Nat) "ChannelRulesModel" "width" "[I") ∈ tws := tb_3 (List.mem_of_getElem? (i := 87) rfl) rfl
theorem tw_568 : (Jvm.Cond.fieldLink "ChannelRulesModel" (37 : Nat) "ChannelRulesModel" "speed" "[I") ∈ tws := tb_3 (List.mem_of_getElem? (i := 88) rfl) rfl
theorem tw_569 : (Jvm.Cond.fieldLink "ChannelRulesModel" (40 : Nat) "ChannelRulesModel" "cls" "[I") ∈ tws := tb_3 (List.mem_of_getElem? (i := 89) rfl) rfl
theorem tw_570 : (Jvm.Cond.fieldLink "ChannelRulesModel" (97 : Nat) "ChannelRulesModel" "wind" "Z") ∈ tws := tb_3 (List.mem_of_getElem? (i := 90) rfl) rfl
theorem tw_571 : (Jvm.Cond.fieldLink "ChannelRulesModel" (78 : Nat) "ChannelRulesModel" "now" "I") ∈ tws := tb_3 (List.mem_of_getElem? (i := 91) rfl) rfl
theorem tw_572 : (Jvm.Cond.fieldLink "ChannelRulesModel" (75 : Nat) "ChannelRulesModel" "slots" "I") ∈ tws := tb_3 (List.mem_of_getElem? (i := 92) rfl) rfl
theorem tw_573 : (Jvm.Cond.fieldLink "ChannelRulesModel" (43 : Nat) "ChannelRulesModel" "slotShip" "[I") ∈ tws := tb_3 (List.mem_of_getElem? (i := 93) rfl) rfl
theorem tw_574 : (Jvm.Cond.fieldLink "ChannelRulesModel" (46 : Nat) "ChannelRulesModel" "begins" "[I") ∈ tws := tb_3 (List.mem_of_getElem? (i := 94) rfl) rfl
theorem tw_575 : (Jvm.Cond.fieldLink "ChannelRulesModel" (49 : Nat) "ChannelRulesModel" "given" "[Z") ∈ tws := tb_3 (List.mem_of_getElem? (i := 95) rfl) rfl
theorem tw_576 : (Jvm.Cond.fieldLink "ChannelRulesModel" (53 : Nat) "ChannelRulesModel" "stays" "[I") ∈ tws := tb_3 (List.mem_of_getElem? (i := 96) rfl) rfl
theorem tw_577 : (Jvm.Cond.fieldLink "ChannelRulesModel" (56 : Nat) "ChannelRulesModel" "stayPiece" "[I") ∈ tws := tb_3 (List.mem_of_getElem? (i := 97) rfl) rfl
theorem tw_578 : (Jvm.Cond.fieldLink "ChannelRulesModel" (59 : Nat) "ChannelRulesModel" "stayForward" "[I") ∈ tws := tb_3 (List.mem_of_getElem? (i := 98) rfl) rfl
theorem tw_579 : (Jvm.Cond.fieldLink "ChannelRulesModel" (62 : Nat) "ChannelRulesModel" "far" "[I") ∈ tws := tb_3 (List.mem_of_getElem? (i := 99) rfl) rfl
theorem tw_628 : (Jvm.Cond.superclass "ChannelRulesModel" "java/lang/Object") ∈ tws := tb_3 (List.mem_of_getElem? (i := 148) rfl) rfl
theorem tw_629 : (Jvm.Cond.methodLink "ChannelRulesLaw" (55 : Nat) ({ cls := "ChannelRulesModel", name := "thrown", desc := "()I" } : Jvm.MethodName)) ∈ tws := tb_3 (List.mem_of_getElem? (i := 149) rfl) rfl
theorem tw_630 : (Jvm.Cond.instanceMethod ({ cls := "ChannelRulesModel", name := "thrown", desc := "()I" } : Jvm.MethodName)) ∈ tws := tb_3 (List.mem_of_getElem? (i := 150) rfl) rfl
theorem tw_631 : (Jvm.Cond.selects "ChannelRulesModel" ({ cls := "ChannelRulesModel", name := "thrown", desc := "()I" } : Jvm.MethodName) ({ cls := "ChannelRulesModel", name := "thrown", desc := "()I" } : Jvm.MethodName)) ∈ tws := tb_3 (List.mem_of_getElem? (i := 151) rfl) rfl
theorem tw_632 : (Jvm.Cond.code ({ cls := "ChannelRulesModel", name := "thrown", desc := "()I" } : Jvm.MethodName) prog_6_method_2_code (1 : Nat) (Option.some Jvm.ClassFile.FieldType.int)) ∈ tws := tb_3 (List.mem_of_getElem? (i := 152) rfl) rfl
theorem tw_633 : (Jvm.Cond.methodLink "ChannelRulesLaw" (54 : Nat) ({ cls := "ChannelRulesModel", name := "piece", desc := "(IIII)I" } : Jvm.MethodName)) ∈ tws := tb_3 (List.mem_of_getElem? (i := 153) rfl) rfl
theorem tw_634 : (Jvm.Cond.instanceMethod ({ cls := "ChannelRulesModel", name := "piece", desc := "(IIII)I" } : Jvm.MethodName)) ∈ tws := tb_3 (List.mem_of_getElem? (i := 154) rfl) rfl
theorem tw_635 : (Jvm.Cond.selects "ChannelRulesModel" ({ cls := "ChannelRulesModel", name := "piece", desc := "(IIII)I" } : Jvm.MethodName) ({ cls := "ChannelRulesModel", name := "piece", desc := "(IIII)I" } : Jvm.MethodName)) ∈ tws := tb_3 (List.mem_of_getElem? (i := 155) rfl) rfl
theorem tw_636 : (Jvm.Cond.code ({ cls := "ChannelRulesModel", name := "piece", desc := "(IIII)I" } : Jvm.MethodName) prog_6_method_10_code (5 : Nat) (Option.some Jvm.ClassFile.FieldType.int)) ∈ tws := tb_3 (List.mem_of_getElem? (i := 156) rfl) rfl
theorem tw_637 : (Jvm.Cond.methodLink "ChannelRulesModel" (82 : Nat) ({ cls := "ChannelRulesModel", name := "isPoint", desc := "(I)Z" } : Jvm.MethodName)) ∈ tws := tb_3 (List.mem_of_getElem? (i := 157) rfl) rfl
theorem tw_638 : (Jvm.Cond.static ({ cls := "ChannelRulesModel", name := "isPoint", desc := "(I)Z" } : Jvm.MethodName)) ∈ tws := tb_3 (List.mem_of_getElem? (i := 158) rfl) rfl
theorem tw_639 : (Jvm.Cond.code ({ cls := "ChannelRulesModel", name := "isPoint", desc := "(I)Z" } : Jvm.MethodName) prog_6_method_5_code (1 : Nat) (Option.some Jvm.ClassFile.FieldType.boolean)) ∈ tws := tb_3 (List.mem_of_getElem? (i := 159) rfl) rfl
theorem tw_640 : (Jvm.Cond.methodLink "ChannelRulesModel" (86 : Nat) ({ cls := "ChannelRulesModel", name := "in", desc := "(III)Z" } : Jvm.MethodName)) ∈ tws := tb_3 (List.mem_of_getElem? (i := 160) rfl) rfl
theorem tw_641 : (Jvm.Cond.static ({ cls := "ChannelRulesModel", name := "in", desc := "(III)Z" } : Jvm.MethodName)) ∈ tws := tb_3 (List.mem_of_getElem? (i := 161) rfl) rfl
theorem tw_642 : (Jvm.Cond.code ({ cls := "ChannelRulesModel", name := "in", desc := "(III)Z" } : Jvm.MethodName) prog_6_method_4_code (3 : Nat) (Option.some Jvm.ClassFile.FieldType.boolean)) ∈ tws := tb_3 (List.mem_of_getElem? (i := 162) rfl) rfl
theorem tw_643 : (Jvm.Cond.methodLink "ChannelRulesModel" (90 : Nat) ({ cls := "ChannelRulesModel", name := "fails", desc := "(I)I" } : Jvm.MethodName)) ∈ tws := tb_3 (List.mem_of_getElem? (i := 163) rfl) rfl
theorem tw_644 : (Jvm.Cond.privateMethod ({ cls := "ChannelRulesModel", name := "fails", desc := "(I)I" } : Jvm.MethodName)) ∈ tws := tb_3 (List.mem_of_getElem? (i := 164) rfl) rfl
theorem tw_645 : (Jvm.Cond.instanceMethod ({ cls := "ChannelRulesModel", name := "fails", desc := "(I)I" } : Jvm.MethodName)) ∈ tws := tb_3 (List.mem_of_getElem? (i := 165) rfl) rfl
theorem tw_646 : (Jvm.Cond.code ({ cls := "ChannelRulesModel", name := "fails", desc := "(I)I" } : Jvm.MethodName) prog_6_method_3_code (2 : Nat) (Option.some Jvm.ClassFile.FieldType.int)) ∈ tws := tb_3 (List.mem_of_getElem? (i := 166) rfl) rfl
theorem tw_647 : (Jvm.Cond.methodLink "ChannelRulesLaw" (63 : Nat) ({ cls := "ChannelRulesModel", name := "rule", desc := "(III)Z" } : Jvm.MethodName)) ∈ tws := tb_3 (List.mem_of_getElem? (i := 167) rfl) rfl
theorem tw_648 : (Jvm.Cond.instanceMethod ({ cls := "ChannelRulesModel", name := "rule", desc := "(III)Z" } : Jvm.MethodName)) ∈ tws := tb_3 (List.mem_of_getElem? (i := 168) rfl) rfl
theorem tw_649 : (Jvm.Cond.selects "ChannelRulesModel" ({ cls := "ChannelRulesModel", name := "rule", desc := "(III)Z" } : Jvm.MethodName) ({ cls := "ChannelRulesModel", name := "rule", desc := "(III)Z" } : Jvm.MethodName)) ∈ tws := tb_3 (List.mem_of_getElem? (i := 169) rfl) rfl
theorem tw_650 : (Jvm.Cond.code ({ cls := "ChannelRulesModel", name := "rule", desc := "(III)Z" } : Jvm.MethodName) prog_6_method_11_code (5 : Nat) (Option.some Jvm.ClassFile.FieldType.boolean)) ∈ tws := tb_3 (List.mem_of_getElem? (i := 170) rfl) rfl
theorem tw_651 : (Jvm.Cond.methodLink "ChannelRulesModel" (94 : Nat) ({ cls := "ChannelRulesModel", name := "isPiece", desc := "(I)Z" } : Jvm.MethodName)) ∈ tws := tb_3 (List.mem_of_getElem? (i := 171) rfl) rfl
theorem tw_652 : (Jvm.Cond.privateMethod ({ cls := "ChannelRulesModel", name := "isPiece", desc := "(I)Z" } : Jvm.MethodName)) ∈ tws := tb_3 (List.mem_of_getElem? (i := 172) rfl) rfl
theorem tw_653 : (Jvm.Cond.instanceMethod ({ cls := "ChannelRulesModel", name := "isPiece", desc := "(I)Z" } : Jvm.MethodName)) ∈ tws := tb_3 (List.mem_of_getElem? (i := 173) rfl) rfl
theorem tw_654 : (Jvm.Cond.code ({ cls := "ChannelRulesModel", name := "isPiece", desc := "(I)Z" } : Jvm.MethodName) prog_6_method_6_code (2 : Nat) (Option.some Jvm.ClassFile.FieldType.boolean)) ∈ tws := tb_3 (List.mem_of_getElem? (i := 174) rfl) rfl
theorem tw_655 : (Jvm.Cond.methodLink "ChannelRulesLaw" (68 : Nat) ({ cls := "ChannelRulesModel", name := "wind", desc := "(Z)Z" } : Jvm.MethodName)) ∈ tws := tb_3 (List.mem_of_getElem? (i := 175) rfl) rfl
theorem tw_656 : (Jvm.Cond.instanceMethod ({ cls := "ChannelRulesModel", name := "wind", desc := "(Z)Z" } : Jvm.MethodName)) ∈ tws := tb_3 (List.mem_of_getElem? (i := 176) rfl) rfl
theorem tw_657 : (Jvm.Cond.selects "ChannelRulesModel" ({ cls := "ChannelRulesModel", name := "wind", desc := "(Z)Z" } : Jvm.MethodName) ({ cls := "ChannelRulesModel", name := "wind", desc := "(Z)Z" } : Jvm.MethodName)) ∈ tws := tb_3 (List.mem_of_getElem? (i := 177) rfl) rfl
theorem tw_658 : (Jvm.Cond.code ({ cls := "ChannelRulesModel", name := "wind", desc := "(Z)Z" } : Jvm.MethodName) prog_6_method_12_code (3 : Nat) (Option.some Jvm.ClassFile.FieldType.boolean)) ∈ tws := tb_3 (List.mem_of_getElem? (i := 178) rfl) rfl
theorem tw_659 : (Jvm.Cond.methodLink "ChannelRulesLaw" (72 : Nat) ({ cls := "ChannelRulesModel", name := "ship", desc := "(III)I" } : Jvm.MethodName)) ∈ tws := tb_3 (List.mem_of_getElem? (i := 179) rfl) rfl
theorem tw_660 : (Jvm.Cond.instanceMethod ({ cls := "ChannelRulesModel", name := "ship", desc := "(III)I" } : Jvm.MethodName)) ∈ tws := tb_3 (List.mem_of_getElem? (i := 180) rfl) rfl
theorem tw_661 : (Jvm.Cond.selects "ChannelRulesModel" ({ cls := "ChannelRulesModel", name := "ship", desc := "(III)I" } : Jvm.MethodName) ({ cls := "ChannelRulesModel", name := "ship", desc := "(III)I" } : Jvm.MethodName)) ∈ tws := tb_3 (List.mem_of_getElem? (i := 181) rfl) rfl
theorem tw_662 : (Jvm.Cond.code ({ cls := "ChannelRulesModel", name := "ship", desc := "(III)I" } : Jvm.MethodName) prog_6_method_13_code (4 : Nat) (Option.some Jvm.ClassFile.FieldType.int)) ∈ tws := tb_3 (List.mem_of_getElem? (i := 182) rfl) rfl
theorem tw_663 : (Jvm.Cond.methodLink "ChannelRulesLaw" (75 : Nat) ({ cls := "ChannelRulesModel", name := "route", desc := "(IIII)I" } : Jvm.MethodName)) ∈ tws := tb_3 (List.mem_of_getElem? (i := 183) rfl) rfl
theorem tw_664 : (Jvm.Cond.instanceMethod ({ cls := "ChannelRulesModel", name := "route", desc := "(IIII)I" } : Jvm.MethodName)) ∈ tws := tb_3 (List.mem_of_getElem? (i := 184) rfl) rfl
theorem tw_665 : (Jvm.Cond.selects "ChannelRulesModel" ({ cls := "ChannelRulesModel", name := "route", desc := "(IIII)I" } : Jvm.MethodName) ({ cls := "ChannelRulesModel", name := "route", desc := "(IIII)I" } : Jvm.MethodName)) ∈ tws := tb_3 (List.mem_of_getElem? (i := 185) rfl) rfl
theorem tw_666 : (Jvm.Cond.code ({ cls := "ChannelRulesModel", name := "route", desc := "(IIII)I" } : Jvm.MethodName) prog_6_method_18_code (5 : Nat) (Option.some Jvm.ClassFile.FieldType.int)) ∈ tws := tb_3 (List.mem_of_getElem? (i := 186) rfl) rfl
theorem tw_667 : (Jvm.Cond.methodLink "ChannelRulesModel" (113 : Nat) ({ cls := "ChannelRulesModel", name := "isShip", desc := "(I)Z" } : Jvm.MethodName)) ∈ tws := tb_3 (List.mem_of_getElem? (i := 187) rfl) rfl
theorem tw_668 : (Jvm.Cond.privateMethod ({ cls := "ChannelRulesModel", name := "isShip", desc := "(I)Z" } : Jvm.MethodName)) ∈ tws := tb_3 (List.mem_of_getElem? (i := 188) rfl) rfl
theorem tw_669 : (Jvm.Cond.instanceMethod ({ cls := "ChannelRulesModel", name := "isShip", desc := "(I)Z" } : Jvm.MethodName)) ∈ tws := tb_3 (List.mem_of_getElem? (i := 189) rfl) rfl
theorem tw_670 : (Jvm.Cond.code ({ cls := "ChannelRulesModel", name := "isShip", desc := "(I)Z" } : Jvm.MethodName) prog_6_method_7_code (2 : Nat) (Option.some Jvm.ClassFile.FieldType.boolean)) ∈ tws := tb_3 (List.mem_of_getElem? (i := 190) rfl) rfl
theorem tw_671 : (Jvm.Cond.methodLink "ChannelRulesModel" (116 : Nat) ({ cls := "ChannelRulesModel", name := "lays", desc := "(III)Z" } : Jvm.MethodName)) ∈ tws := tb_3 (List.mem_of_getElem? (i := 191) rfl) rfl
theorem tw_672 : (Jvm.Cond.privateMethod ({ cls := "ChannelRulesModel", name := "lays", desc := "(III)Z" } : Jvm.MethodName)) ∈ tws := tb_3 (List.mem_of_getElem? (i := 192) rfl) rfl
theorem tw_673 : (Jvm.Cond.instanceMethod ({ cls := "ChannelRulesModel", name := "lays", desc := "(III)Z" } : Jvm.MethodName)) ∈ tws := tb_3 (List.mem_of_getElem? (i := 193) rfl) rfl
theorem tw_674 : (Jvm.Cond.code ({ cls := "ChannelRulesModel", name := "lays", desc := "(III)Z" } : Jvm.MethodName) prog_6_method_17_code (6 : Nat) (Option.some Jvm.ClassFile.FieldType.boolean)) ∈ tws := tb_3 (List.mem_of_getElem? (i := 194) rfl) rfl
theorem tw_675 : (Jvm.Cond.methodLink "ChannelRulesModel" (106 : Nat) ({ cls := "ChannelRulesModel", name := "timesTo", desc := "(II)V" } : Jvm.MethodName)) ∈ tws := tb_3 (List.mem_of_getElem? (i := 195) rfl) rfl
theorem tw_676 : (Jvm.Cond.privateMethod ({ cls := "ChannelRulesModel", name := "timesTo", desc := "(II)V" } : Jvm.MethodName)) ∈ tws := tb_3 (List.mem_of_getElem? (i := 196) rfl) rfl
theorem tw_677 : (Jvm.Cond.instanceMethod ({ cls := "ChannelRulesModel", name := "timesTo", desc := "(II)V" } : Jvm.MethodName)) ∈ tws := tb_3 (List.mem_of_getElem? (i := 197) rfl) rfl
theorem tw_678 : (Jvm.Cond.code ({ cls := "ChannelRulesModel", name := "timesTo", desc := "(II)V" } : Jvm.MethodName) prog_6_method_15_code (8 : Nat) (Option.none : Option Jvm.ClassFile.FieldType)) ∈ tws := tb_3 (List.mem_of_getElem? (i := 198) rfl) rfl
theorem tw_679 : (Jvm.Cond.constant "ChannelRulesModel" (101 : Nat) (1000000 : Int32)) ∈ tws := tb_3 (List.mem_of_getElem? (i := 199) rfl) rfl
theorem tw_680 : (Jvm.Cond.methodLink "ChannelRulesModel" (102 : Nat) ({ cls := "ChannelRulesModel", name := "takes", desc := "(II)I" } : Jvm.MethodName)) ∈ tws := tb_3 (List.mem_of_getElem? (i := 200) rfl) rfl
theorem tw_681 : (Jvm.Cond.privateMethod ({ cls := "ChannelRulesModel", name := "takes", desc := "(II)I" } : Jvm.MethodName)) ∈ tws := tb_3 (List.mem_of_getElem? (i := 201) rfl) rfl
theorem tw_682 : (Jvm.Cond.instanceMethod ({ cls := "ChannelRulesModel", name := "takes", desc := "(II)I" } : Jvm.MethodName)) ∈ tws := tb_3 (List.mem_of_getElem? (i := 202) rfl) rfl
theorem tw_683 : (Jvm.Cond.code ({ cls := "ChannelRulesModel", name := "takes", desc := "(II)I" } : Jvm.MethodName) prog_6_method_14_code (3 : Nat) (Option.some Jvm.ClassFile.FieldType.int)) ∈ tws := tb_3 (List.mem_of_getElem? (i := 203) rfl) rfl
theorem tw_684 : (Jvm.Cond.methodLink "ChannelRulesModel" (110 : Nat) ({ cls := "ChannelRulesModel", name := "next", desc := "(II)I" } : Jvm.MethodName)) ∈ tws := tb_3 (List.mem_of_getElem? (i := 204) rfl) rfl
theorem tw_685 : (Jvm.Cond.privateMethod ({ cls := "ChannelRulesModel", name := "next", desc := "(II)I" } : Jvm.MethodName)) ∈ tws := tb_3 (List.mem_of_getElem? (i := 205) rfl) rfl
theorem tw_686 : (Jvm.Cond.instanceMethod ({ cls := "ChannelRulesModel", name := "next", desc := "(II)I" } : Jvm.MethodName)) ∈ tws := tb_3 (List.mem_of_getElem? (i := 206) rfl) rfl
theorem tw_687 : (Jvm.Cond.code ({ cls := "ChannelRulesModel", name := "next", desc := "(II)I" } : Jvm.MethodName) prog_6_method_16_code (7 : Nat) (Option.some Jvm.ClassFile.FieldType.int)) ∈ tws := tb_3 (List.mem_of_getElem? (i := 207) rfl) rfl
theorem tw_688 : (Jvm.Cond.methodLink "ChannelRulesLaw" (78 : Nat) ({ cls := "ChannelRulesModel", name := "ask", desc := "(IIII)I" } : Jvm.MethodName)) ∈ tws := tb_3 (List.mem_of_getElem? (i := 208) rfl) rfl
theorem tw_689 : (Jvm.Cond.instanceMethod ({ cls := "ChannelRulesModel", name := "ask", desc := "(IIII)I" } : Jvm.MethodName)) ∈ tws := tb_3 (List.mem_of_getElem? (i := 209) rfl) rfl
theorem tw_690 : (Jvm.Cond.selects "ChannelRulesModel" ({ cls := "ChannelRulesModel", name := "ask", desc := "(IIII)I" } : Jvm.MethodName) ({ cls := "ChannelRulesModel", name := "ask", desc := "(IIII)I" } : Jvm.MethodName)) ∈ tws := tb_3 (List.mem_of_getElem? (i := 210) rfl) rfl
theorem tw_691 : (Jvm.Cond.code ({ cls := "ChannelRulesModel", name := "ask", desc := "(IIII)I" } : Jvm.MethodName) prog_6_method_27_code (7 : Nat) (Option.some Jvm.ClassFile.FieldType.int)) ∈ tws := tb_3 (List.mem_of_getElem? (i := 211) rfl) rfl
theorem tw_692 : (Jvm.Cond.methodLink "ChannelRulesModel" (143 : Nat) ({ cls := "ChannelRulesModel", name := "isPassage", desc := "(IIII)Z" } : Jvm.MethodName)) ∈ tws := tb_3 (List.mem_of_getElem? (i := 212) rfl) rfl
theorem tw_693 : (Jvm.Cond.privateMethod ({ cls := "ChannelRulesModel", name := "isPassage", desc := "(IIII)Z" } : Jvm.MethodName)) ∈ tws := tb_3 (List.mem_of_getElem? (i := 213) rfl) rfl
theorem tw_694 : (Jvm.Cond.instanceMethod ({ cls := "ChannelRulesModel", name := "isPassage", desc := "(IIII)Z" } : Jvm.MethodName)) ∈ tws := tb_3 (List.mem_of_getElem? (i := 214) rfl) rfl
theorem tw_695 : (Jvm.Cond.code ({ cls := "ChannelRulesModel", name := "isPassage", desc := "(IIII)Z" } : Jvm.MethodName) prog_6_method_26_code (5 : Nat) (Option.some Jvm.ClassFile.FieldType.boolean)) ∈ tws := tb_3 (List.mem_of_getElem? (i := 215) rfl) rfl
theorem tw_696 : (Jvm.Cond.methodLink "ChannelRulesModel" (140 : Nat) ({ cls := "ChannelRulesModel", name := "isTime", desc := "(I)Z" } : Jvm.MethodName)) ∈ tws := tb_3 (List.mem_of_getElem? (i := 216) rfl) rfl
theorem tw_697 : (Jvm.Cond.privateMethod ({ cls := "ChannelRulesModel", name := "isTime", desc := "(I)Z" } : Jvm.MethodName)) ∈ tws := tb_3 (List.mem_of_getElem? (i := 217) rfl) rfl
theorem tw_698 : (Jvm.Cond.instanceMethod ({ cls := "ChannelRulesModel", name := "isTime", desc := "(I)Z" } : Jvm.MethodName)) ∈ tws := tb_3 (List.mem_of_getElem? (i := 218) rfl) rfl
theorem tw_699 : (Jvm.Cond.code ({ cls := "ChannelRulesModel", name := "isTime", desc := "(I)Z" } : Jvm.MethodName) prog_6_method_9_code (2 : Nat) (Option.some Jvm.ClassFile.FieldType.boolean)) ∈ tws := tb_3 (List.mem_of_getElem? (i := 219) rfl) rfl
theorem tw_700 : (Jvm.Cond.constant "ChannelRulesModel" (81 : Nat) (100000 : Int32)) ∈ tws := tb_3 (List.mem_of_getElem? (i := 220) rfl) rfl
theorem tw_701 : (Jvm.Cond.methodLink "ChannelRulesModel" (147 : Nat) ({ cls := "ChannelRulesModel", name := "against", desc := "(II)I" } : Jvm.MethodName)) ∈ tws := tb_3 (List.mem_of_getElem? (i := 221) rfl) rfl
theorem tw_702 : (Jvm.Cond.privateMethod ({ cls := "ChannelRulesModel", name := "against", desc := "(II)I" } : Jvm.MethodName)) ∈ tws := tb_3 (List.mem_of_getElem? (i := 222) rfl) rfl
theorem tw_703 : (Jvm.Cond.instanceMethod ({ cls := "ChannelRulesModel", name := "against", desc := "(II)I" } : Jvm.MethodName)) ∈ tws := tb_3 (List.mem_of_getElem? (i := 223) rfl) rfl
theorem tw_704 : (Jvm.Cond.code ({ cls := "ChannelRulesModel", name := "against", desc := "(II)I" } : Jvm.MethodName) prog_6_method_25_code (7 : Nat) (Option.some Jvm.ClassFile.FieldType.int)) ∈ tws := tb_3 (List.mem_of_getElem? (i := 224) rfl) rfl
theorem tw_705 : (Jvm.Cond.methodLink "ChannelRulesModel" (133 : Nat) ({ cls := "ChannelRulesModel", name := "barred", desc := "(II)I" } : Jvm.MethodName)) ∈ tws := tb_3 (List.mem_of_getElem? (i := 225) rfl) rfl
theorem tw_706 : (Jvm.Cond.privateMethod ({ cls := "ChannelRulesModel", name := "barred", desc := "(II)I" } : Jvm.MethodName)) ∈ tws := tb_3 (List.mem_of_getElem? (i := 226) rfl) rfl
theorem tw_707 : (Jvm.Cond.instanceMethod ({ cls := "ChannelRulesModel", name := "barred", desc := "(II)I" } : Jvm.MethodName)) ∈ tws := tb_3 (List.mem_of_getElem? (i := 227) rfl) rfl
theorem tw_708 : (Jvm.Cond.code ({ cls := "ChannelRulesModel", name := "barred", desc := "(II)I" } : Jvm.MethodName) prog_6_method_22_code (9 : Nat) (Option.some Jvm.ClassFile.FieldType.int)) ∈ tws := tb_3 (List.mem_of_getElem? (i := 228) rfl) rfl
theorem tw_709 : (Jvm.Cond.methodLink "ChannelRulesModel" (119 : Nat) ({ cls := "ChannelRulesModel", name := "enters", desc := "(II)I" } : Jvm.MethodName)) ∈ tws := tb_3 (List.mem_of_getElem? (i := 229) rfl) rfl
theorem tw_710 : (Jvm.Cond.privateMethod ({ cls := "ChannelRulesModel", name := "enters", desc := "(II)I" } : Jvm.MethodName)) ∈ tws := tb_3 (List.mem_of_getElem? (i := 230) rfl) rfl
theorem tw_711 : (Jvm.Cond.instanceMethod ({ cls := "ChannelRulesModel", name := "enters", desc := "(II)I" } : Jvm.MethodName)) ∈ tws := tb_3 (List.mem_of_getElem? (i := 231) rfl) rfl
theorem tw_712 : (Jvm.Cond.code ({ cls := "ChannelRulesModel", name := "enters", desc := "(II)I" } : Jvm.MethodName) prog_6_method_19_code (5 : Nat) (Option.some Jvm.ClassFile.FieldType.int)) ∈ tws := tb_3 (List.mem_of_getElem? (i := 232) rfl) rfl
theorem tw_713 : (Jvm.Cond.methodLink "ChannelRulesModel" (122 : Nat) ({ cls := "ChannelRulesModel", name := "leaves", desc := "(II)I" } : Jvm.MethodName)) ∈ tws := tb_3 (List.mem_of_getElem? (i := 233) rfl) rfl
theorem tw_714 : (Jvm.Cond.privateMethod ({ cls := "ChannelRulesModel", name := "leaves", desc := "(II)I" } : Jvm.MethodName)) ∈ tws := tb_3 (List.mem_of_getElem? (i := 234) rfl) rfl
theorem tw_715 : (Jvm.Cond.instanceMethod ({ cls := "ChannelRulesModel", name := "leaves", desc := "(II)I" } : Jvm.MethodName)) ∈ tws := tb_3 (List.mem_of_getElem? (i := 235) rfl) rfl
theorem tw_716 : (Jvm.Cond.code ({ cls := "ChannelRulesModel", name := "leaves", desc := "(II)I" } : Jvm.MethodName) prog_6_method_20_code (3 : Nat) (Option.some Jvm.ClassFile.FieldType.int)) ∈ tws := tb_3 (List.mem_of_getElem? (i := 236) rfl) rfl
theorem tw_717 : (Jvm.Cond.methodLink "ChannelRulesModel" (125 : Nat) ({ cls := "ChannelRulesModel", name := "isNight", desc := "(II)Z" } : Jvm.MethodName)) ∈ tws := tb_3 (List.mem_of_getElem? (i := 237) rfl) rfl
theorem tw_718 : (Jvm.Cond.static ({ cls := "ChannelRulesModel", name := "isNight", desc := "(II)Z" } : Jvm.MethodName)) ∈ tws := tb_3 (List.mem_of_getElem? (i := 238) rfl) rfl
theorem tw_719 : (Jvm.Cond.code ({ cls := "ChannelRulesModel", name := "isNight", desc := "(II)Z" } : Jvm.MethodName) prog_6_method_21_code (4 : Nat) (Option.some Jvm.ClassFile.FieldType.boolean)) ∈ tws := tb_3 (List.mem_of_getElem? (i := 239) rfl) rfl
theorem tw_720 : (Jvm.Cond.methodLink "ChannelRulesModel" (136 : Nat) ({ cls := "ChannelRulesModel", name := "with", desc := "(III)I" } : Jvm.MethodName)) ∈ tws := tb_4 (List.mem_of_getElem? (i := 0) rfl) rfl
theorem tw_721 : (Jvm.Cond.privateMethod ({ cls := "ChannelRulesModel", name := "with", desc := "(III)I" } : Jvm.MethodName)) ∈ tws := tb_4 (List.mem_of_getElem? (i := 1) rfl) rfl
theorem tw_722 : (Jvm.Cond.instanceMethod ({ cls := "ChannelRulesModel", name := "with", desc := "(III)I" } : Jvm.MethodName)) ∈ tws := tb_4 (List.mem_of_getElem? (i := 2) rfl) rfl
theorem tw_723 : (Jvm.Cond.code ({ cls := "ChannelRulesModel", name := "with", desc := "(III)I" } : Jvm.MethodName) prog_6_method_24_code (6 : Nat) (Option.some Jvm.ClassFile.FieldType.int)) ∈ tws := tb_4 (List.mem_of_getElem? (i := 3) rfl) rfl
theorem tw_724 : (Jvm.Cond.methodLink "ChannelRulesModel" (129 : Nat) ({ cls := "ChannelRulesModel", name := "between", desc := "(IIII)I" } : Jvm.MethodName)) ∈ tws := tb_4 (List.mem_of_getElem? (i := 4) rfl) rfl
theorem tw_725 : (Jvm.Cond.privateMethod ({ cls := "ChannelRulesModel", name := "between", desc := "(IIII)I" } : Jvm.MethodName)) ∈ tws := tb_4 (List.mem_of_getElem? (i := 5) rfl) rfl
theorem tw_726 : (Jvm.Cond.instanceMethod ({ cls := "ChannelRulesModel", name := "between", desc := "(IIII)I" } : Jvm.MethodName)) ∈ tws := tb_4 (List.mem_of_getElem? (i := 6) rfl) rfl
theorem tw_727 : (Jvm.Cond.code ({ cls := "ChannelRulesModel", name := "between", desc := "(IIII)I" } : Jvm.MethodName) prog_6_method_23_code (12 : Nat) (Option.some Jvm.ClassFile.FieldType.int)) ∈ tws := tb_4 (List.mem_of_getElem? (i := 7) rfl) rfl
theorem tw_728 : (Jvm.Cond.methodLink "ChannelRulesLaw" (81 : Nat) ({ cls := "ChannelRulesModel", name := "earliest", desc := "(IIII)I" } : Jvm.MethodName)) ∈ tws := tb_4 (List.mem_of_getElem? (i := 8) rfl) rfl
theorem tw_729 : (Jvm.Cond.instanceMethod ({ cls := "ChannelRulesModel", name := "earliest", desc := "(IIII)I" } : Jvm.MethodName)) ∈ tws := tb_4 (List.mem_of_getElem? (i := 9) rfl) rfl
theorem tw_730 : (Jvm.Cond.selects "ChannelRulesModel" ({ cls := "ChannelRulesModel", name := "earliest", desc := "(IIII)I" } : Jvm.MethodName) ({ cls := "ChannelRulesModel", name := "earliest", desc := "(IIII)I" } : Jvm.MethodName)) ∈ tws := tb_4 (List.mem_of_getElem? (i := 10) rfl) rfl
theorem tw_731 : (Jvm.Cond.code ({ cls := "ChannelRulesModel", name := "earliest", desc := "(IIII)I" } : Jvm.MethodName) prog_6_method_28_code (6 : Nat) (Option.some Jvm.ClassFile.FieldType.int)) ∈ tws := tb_4 (List.mem_of_getElem? (i := 11) rfl) rfl
theorem tw_732 : (Jvm.Cond.methodLink "ChannelRulesLaw" (85 : Nat) ({ cls := "ChannelRulesModel", name := "change", desc := "(II)I" } : Jvm.MethodName)) ∈ tws := tb_4 (List.mem_of_getElem? (i := 12) rfl) rfl
theorem tw_733 : (Jvm.Cond.instanceMethod ({ cls := "ChannelRulesModel", name := "change", desc := "(II)I" } : Jvm.MethodName)) ∈ tws := tb_4 (List.mem_of_getElem? (i := 13) rfl) rfl
theorem tw_734 : (Jvm.Cond.selects "ChannelRulesModel" ({ cls := "ChannelRulesModel", name := "change", desc := "(II)I" } : Jvm.MethodName) ({ cls := "ChannelRulesModel", name := "change", desc := "(II)I" } : Jvm.MethodName)) ∈ tws := tb_4 (List.mem_of_getElem? (i := 14) rfl) rfl
theorem tw_735 : (Jvm.Cond.code ({ cls := "ChannelRulesModel", name := "change", desc := "(II)I" } : Jvm.MethodName) prog_6_method_29_code (4 : Nat) (Option.some Jvm.ClassFile.FieldType.int)) ∈ tws := tb_4 (List.mem_of_getElem? (i := 15) rfl) rfl
theorem tw_736 : (Jvm.Cond.methodLink "ChannelRulesModel" (150 : Nat) ({ cls := "ChannelRulesModel", name := "isSlot", desc := "(I)Z" } : Jvm.MethodName)) ∈ tws := tb_4 (List.mem_of_getElem? (i := 16) rfl) rfl
theorem tw_737 : (Jvm.Cond.privateMethod ({ cls := "ChannelRulesModel", name := "isSlot", desc := "(I)Z" } : Jvm.MethodName)) ∈ tws := tb_4 (List.mem_of_getElem? (i := 17) rfl) rfl
theorem tw_738 : (Jvm.Cond.instanceMethod ({ cls := "ChannelRulesModel", name := "isSlot", desc := "(I)Z" } : Jvm.MethodName)) ∈ tws := tb_4 (List.mem_of_getElem? (i := 18) rfl) rfl
theorem tw_739 : (Jvm.Cond.code ({ cls := "ChannelRulesModel", name := "isSlot", desc := "(I)Z" } : Jvm.MethodName) prog_6_method_8_code (2 : Nat) (Option.some Jvm.ClassFile.FieldType.boolean)) ∈ tws := tb_4 (List.mem_of_getElem? (i := 19) rfl) rfl
theorem tw_740 : (Jvm.Cond.methodLink "ChannelRulesLaw" (90 : Nat) ({ cls := "ChannelRulesModel", name := "back", desc := "(I)Z" } : Jvm.MethodName)) ∈ tws := tb_4 (List.mem_of_getElem? (i := 20) rfl) rfl
theorem tw_741 : (Jvm.Cond.instanceMethod ({ cls := "ChannelRulesModel", name := "back", desc := "(I)Z" } : Jvm.MethodName)) ∈ tws := tb_4 (List.mem_of_getElem? (i := 21) rfl) rfl
theorem tw_742 : (Jvm.Cond.selects "ChannelRulesModel" ({ cls := "ChannelRulesModel", name := "back", desc := "(I)Z" } : Jvm.MethodName) ({ cls := "ChannelRulesModel", name := "back", desc := "(I)Z" } : Jvm.MethodName)) ∈ tws := tb_4 (List.mem_of_getElem? (i := 22) rfl) rfl
theorem tw_743 : (Jvm.Cond.code ({ cls := "ChannelRulesModel", name := "back", desc := "(I)Z" } : Jvm.MethodName) prog_6_method_30_code (2 : Nat) (Option.some Jvm.ClassFile.FieldType.boolean)) ∈ tws := tb_4 (List.mem_of_getElem? (i := 23) rfl) rfl
theorem tw_744 : (Jvm.Cond.methodLink "ChannelRulesLaw" (93 : Nat) ({ cls := "ChannelRulesModel", name := "close", desc := "(III)I" } : Jvm.MethodName)) ∈ tws := tb_4 (List.mem_of_getElem? (i := 24) rfl) rfl
theorem tw_745 : (Jvm.Cond.instanceMethod ({ cls := "ChannelRulesModel", name := "close", desc := "(III)I" } : Jvm.MethodName)) ∈ tws := tb_4 (List.mem_of_getElem? (i := 25) rfl) rfl
theorem tw_746 : (Jvm.Cond.selects "ChannelRulesModel" ({ cls := "ChannelRulesModel", name := "close", desc := "(III)I" } : Jvm.MethodName) ({ cls := "ChannelRulesModel", name := "close", desc := "(III)I" } : Jvm.MethodName)) ∈ tws := tb_4 (List.mem_of_getElem? (i := 26) rfl) rfl
theorem tw_747 : (Jvm.Cond.code ({ cls := "ChannelRulesModel", name := "close", desc := "(III)I" } : Jvm.MethodName) prog_6_method_31_code (8 : Nat) (Option.some Jvm.ClassFile.FieldType.int)) ∈ tws := tb_4 (List.mem_of_getElem? (i := 27) rfl) rfl
theorem tw_748 : (Jvm.Cond.methodLink "ChannelRulesLaw" (97 : Nat) ({ cls := "ChannelRulesModel", name := "tick", desc := "(I)Z" } : Jvm.MethodName)) ∈ tws := tb_4 (List.mem_of_getElem? (i := 28) rfl) rfl
theorem tw_749 : (Jvm.Cond.instanceMethod ({ cls := "ChannelRulesModel", name := "tick", desc := "(I)Z" } : Jvm.MethodName)) ∈ tws := tb_4 (List.mem_of_getElem? (i := 29) rfl) rfl
theorem tw_750 : (Jvm.Cond.selects "ChannelRulesModel" ({ cls := "ChannelRulesModel", name := "tick", desc := "(I)Z" } : Jvm.MethodName) ({ cls := "ChannelRulesModel", name := "tick", desc := "(I)Z" } : Jvm.MethodName)) ∈ tws := tb_4 (List.mem_of_getElem? (i := 30) rfl) rfl
theorem tw_751 : (Jvm.Cond.code ({ cls := "ChannelRulesModel", name := "tick", desc := "(I)Z" } : Jvm.MethodName) prog_6_method_32_code (2 : Nat) (Option.some Jvm.ClassFile.FieldType.boolean)) ∈ tws := tb_4 (List.mem_of_getElem? (i := 31) rfl) rfl
theorem tw_752 : (Jvm.Cond.methodLink "ChannelRulesLaw" (100 : Nat) ({ cls := "ChannelRulesModel", name := "conflict", desc := "(II)I" } : Jvm.MethodName)) ∈ tws := tb_4 (List.mem_of_getElem? (i := 32) rfl) rfl
theorem tw_753 : (Jvm.Cond.instanceMethod ({ cls := "ChannelRulesModel", name := "conflict", desc := "(II)I" } : Jvm.MethodName)) ∈ tws := tb_4 (List.mem_of_getElem? (i := 33) rfl) rfl
theorem tw_754 : (Jvm.Cond.selects "ChannelRulesModel" ({ cls := "ChannelRulesModel", name := "conflict", desc := "(II)I" } : Jvm.MethodName) ({ cls := "ChannelRulesModel", name := "conflict", desc := "(II)I" } : Jvm.MethodName)) ∈ tws := tb_4 (List.mem_of_getElem? (i := 34) rfl) rfl
theorem tw_755 : (Jvm.Cond.code ({ cls := "ChannelRulesModel", name := "conflict", desc := "(II)I" } : Jvm.MethodName) prog_6_method_34_code (3 : Nat) (Option.some Jvm.ClassFile.FieldType.int)) ∈ tws := tb_4 (List.mem_of_getElem? (i := 35) rfl) rfl
theorem tw_756 : (Jvm.Cond.methodLink "ChannelRulesModel" (153 : Nat) ({ cls := "ChannelRulesModel", name := "conflicts", desc := "(II)I" } : Jvm.MethodName)) ∈ tws := tb_4 (List.mem_of_getElem? (i := 36) rfl) rfl
theorem tw_757 : (Jvm.Cond.privateMethod ({ cls := "ChannelRulesModel", name := "conflicts", desc := "(II)I" } : Jvm.MethodName)) ∈ tws := tb_4 (List.mem_of_getElem? (i := 37) rfl) rfl
theorem tw_758 : (Jvm.Cond.instanceMethod ({ cls := "ChannelRulesModel", name := "conflicts", desc := "(II)I" } : Jvm.MethodName)) ∈ tws := tb_4 (List.mem_of_getElem? (i := 38) rfl) rfl
theorem tw_759 : (Jvm.Cond.code ({ cls := "ChannelRulesModel", name := "conflicts", desc := "(II)I" } : Jvm.MethodName) prog_6_method_33_code (8 : Nat) (Option.some Jvm.ClassFile.FieldType.int)) ∈ tws := tb_4 (List.mem_of_getElem? (i := 39) rfl) rfl
theorem tw_760 : (Jvm.Cond.methodLink "ChannelRulesLaw" (103 : Nat) ({ cls := "ChannelRulesModel", name := "at", desc := "(III)I" } : Jvm.MethodName)) ∈ tws := tb_4 (List.mem_of_getElem? (i := 40) rfl) rfl
theorem tw_761 : (Jvm.Cond.instanceMethod ({ cls := "ChannelRulesModel", name := "at", desc := "(III)I" } : Jvm.MethodName)) ∈ tws := tb_4 (List.mem_of_getElem? (i := 41) rfl) rfl
theorem tw_762 : (Jvm.Cond.selects "ChannelRulesModel" ({ cls := "ChannelRulesModel", name := "at", desc := "(III)I" } : Jvm.MethodName) ({ cls := "ChannelRulesModel", name := "at", desc := "(III)I" } : Jvm.MethodName)) ∈ tws := tb_4 (List.mem_of_getElem? (i := 42) rfl) rfl
theorem tw_763 : (Jvm.Cond.code ({ cls := "ChannelRulesModel", name := "at", desc := "(III)I" } : Jvm.MethodName) prog_6_method_35_code (4 : Nat) (Option.some Jvm.ClassFile.FieldType.int)) ∈ tws := tb_4 (List.mem_of_getElem? (i := 43) rfl) rfl
theorem tw_764 : (Jvm.Cond.methodLink "ChannelRulesLaw" (108 : Nat) ({ cls := "ChannelRulesModel", name := "count", desc := "(I)I" } : Jvm.MethodName)) ∈ tws := tb_4 (List.mem_of_getElem? (i := 44) rfl) rfl
theorem tw_765 : (Jvm.Cond.instanceMethod ({ cls := "ChannelRulesModel", name := "count", desc := "(I)I" } : Jvm.MethodName)) ∈ tws := tb_4 (List.mem_of_getElem? (i := 45) rfl) rfl
theorem tw_766 : (Jvm.Cond.selects "ChannelRulesModel" ({ cls := "ChannelRulesModel", name := "count", desc := "(I)I" } : Jvm.MethodName) ({ cls := "ChannelRulesModel", name := "count", desc := "(I)I" } : Jvm.MethodName)) ∈ tws := tb_4 (List.mem_of_getElem? (i := 46) rfl) rfl
theorem tw_767 : (Jvm.Cond.code ({ cls := "ChannelRulesModel", name := "count", desc := "(I)I" } : Jvm.MethodName) prog_6_method_36_code (4 : Nat) (Option.some Jvm.ClassFile.FieldType.int)) ∈ tws := tb_4 (List.mem_of_getElem? (i := 47) rfl) rfl
theorem tw_768 : (Jvm.Cond.arrayClass Jvm.ClassFile.FieldType.long) ∈ tws := tb_4 (List.mem_of_getElem? (i := 48) rfl) rfl
theorem tw_769 : (Jvm.Cond.sameMethod "java/lang/Throwable" "java/lang/Throwable" "fillInStackTrace" "(I)Ljava/lang/Throwable;") ∈ tws := tb_4 (List.mem_of_getElem? (i := 49) rfl) rfl
theorem ts_cr_isStillToBegin : Cond.selects "ChannelRules" ⟨"ChannelRules", "isStillToBegin", "(I)Z"⟩ ⟨"ChannelRules", "isStillToBegin", "(I)Z"⟩ ∈ tws := tb_0 (List.mem_of_getElem? (i := 0) rfl) rfl
theorem ts_cr_seekConflict : Cond.selects "ChannelRules" ⟨"ChannelRules", "seekConflict", "(I)I"⟩ ⟨"ChannelRules", "seekConflict", "(I)I"⟩ ∈ tws := tb_0 (List.mem_of_getElem? (i := 1) rfl) rfl
theorem ts_cr_seekConflictOfPair : Cond.selects "ChannelRules" ⟨"ChannelRules", "seekConflictOfPair", "(IIII)I"⟩ ⟨"ChannelRules", "seekConflictOfPair", "(IIII)I"⟩ ∈ tws := tb_0 (List.mem_of_getElem? (i := 2) rfl) rfl
theorem ts_cr_conflictWith : Cond.selects "ChannelRules" ⟨"ChannelRules", "conflictWith", "(III)I"⟩ ⟨"ChannelRules", "conflictWith", "(III)I"⟩ ∈ tws := tb_0 (List.mem_of_getElem? (i := 3) rfl) rfl
theorem ts_cr_givenMark : Cond.selects "ChannelRules" ⟨"ChannelRules", "givenMark", "(I)I"⟩ ⟨"ChannelRules", "givenMark", "(I)I"⟩ ∈ tws := tb_0 (List.mem_of_getElem? (i := 4) rfl) rfl
theorem ts_cr_isVoyage : Cond.selects "ChannelRules" ⟨"ChannelRules", "isVoyage", "(III)Z"⟩ ⟨"ChannelRules", "isVoyage", "(III)Z"⟩ ∈ tws := tb_0 (List.mem_of_getElem? (i := 6) rfl) rfl
theorem ts_cr_planRoute : Cond.selects "ChannelRules" ⟨"ChannelRules", "planRoute", "(III)Z"⟩ ⟨"ChannelRules", "planRoute", "(III)Z"⟩ ∈ tws := tb_0 (List.mem_of_getElem? (i := 7) rfl) rfl
theorem ts_cr_measureTimeLeft : Cond.selects "ChannelRules" ⟨"ChannelRules", "measureTimeLeft", "(II)V"⟩ ⟨"ChannelRules", "measureTimeLeft", "(II)V"⟩ ∈ tws := tb_0 (List.mem_of_getElem? (i := 8) rfl) rfl
theorem ts_cr_fits : Cond.selects "ChannelRules" ⟨"ChannelRules", "fits", "(II)Z"⟩ ⟨"ChannelRules", "fits", "(II)Z"⟩ ∈ tws := tb_0 (List.mem_of_getElem? (i := 9) rfl) rfl
theorem ts_cr_travelTime : Cond.selects "ChannelRules" ⟨"ChannelRules", "travelTime", "(II)I"⟩ ⟨"ChannelRules", "travelTime", "(II)I"⟩ ∈ tws := tb_0 (List.mem_of_getElem? (i := 10) rfl) rfl
theorem ts_cr_shortenBy : Cond.selects "ChannelRules" ⟨"ChannelRules", "shortenBy", "(II)V"⟩ ⟨"ChannelRules", "shortenBy", "(II)V"⟩ ∈ tws := tb_0 (List.mem_of_getElem? (i := 11) rfl) rfl
theorem ts_cr_nextPiece : Cond.selects "ChannelRules" ⟨"ChannelRules", "nextPiece", "(II)I"⟩ ⟨"ChannelRules", "nextPiece", "(II)I"⟩ ∈ tws := tb_0 (List.mem_of_getElem? (i := 12) rfl) rfl
theorem ts_cr_firstBar : Cond.selects "ChannelRules" ⟨"ChannelRules", "firstBar", "(I)I"⟩ ⟨"ChannelRules", "firstBar", "(I)I"⟩ ∈ tws := tb_0 (List.mem_of_getElem? (i := 13) rfl) rfl
theorem ts_cr_barByPiece : Cond.selects "ChannelRules" ⟨"ChannelRules", "barByPiece", "(II)I"⟩ ⟨"ChannelRules", "barByPiece", "(II)I"⟩ ∈ tws := tb_0 (List.mem_of_getElem? (i := 14) rfl) rfl
theorem ts_cr_isAgainstOneWay : Cond.selects "ChannelRules" ⟨"ChannelRules", "isAgainstOneWay", "(II)Z"⟩ ⟨"ChannelRules", "isAgainstOneWay", "(II)Z"⟩ ∈ tws := tb_0 (List.mem_of_getElem? (i := 15) rfl) rfl
theorem ts_cr_isBarredAtNight : Cond.selects "ChannelRules" ⟨"ChannelRules", "isBarredAtNight", "(II)Z"⟩ ⟨"ChannelRules", "isBarredAtNight", "(II)Z"⟩ ∈ tws := tb_0 (List.mem_of_getElem? (i := 16) rfl) rfl
theorem ts_cr_isBarredInWind : Cond.selects "ChannelRules" ⟨"ChannelRules", "isBarredInWind", "(II)Z"⟩ ⟨"ChannelRules", "isBarredInWind", "(II)Z"⟩ ∈ tws := tb_0 (List.mem_of_getElem? (i := 17) rfl) rfl
theorem ts_cr_barBySlots : Cond.selects "ChannelRules" ⟨"ChannelRules", "barBySlots", "(II)I"⟩ ⟨"ChannelRules", "barBySlots", "(II)I"⟩ ∈ tws := tb_0 (List.mem_of_getElem? (i := 18) rfl) rfl
theorem ts_cr_planWait : Cond.selects "ChannelRules" ⟨"ChannelRules", "planWait", "()I"⟩ ⟨"ChannelRules", "planWait", "()I"⟩ ∈ tws := tb_0 (List.mem_of_getElem? (i := 19) rfl) rfl
theorem ts_cr_planWaitByPiece : Cond.selects "ChannelRules" ⟨"ChannelRules", "planWaitByPiece", "(I)I"⟩ ⟨"ChannelRules", "planWaitByPiece", "(I)I"⟩ ∈ tws := tb_0 (List.mem_of_getElem? (i := 20) rfl) rfl
theorem ts_cr_planWaitBySlots : Cond.selects "ChannelRules" ⟨"ChannelRules", "planWaitBySlots", "(I)I"⟩ ⟨"ChannelRules", "planWaitBySlots", "(I)I"⟩ ∈ tws := tb_0 (List.mem_of_getElem? (i := 21) rfl) rfl
theorem ts_cr_planWaitFor : Cond.selects "ChannelRules" ⟨"ChannelRules", "planWaitFor", "(II)I"⟩ ⟨"ChannelRules", "planWaitFor", "(II)I"⟩ ∈ tws := tb_0 (List.mem_of_getElem? (i := 22) rfl) rfl
theorem ts_cr_endSlotsOn : Cond.selects "ChannelRules" ⟨"ChannelRules", "endSlotsOn", "(III)I"⟩ ⟨"ChannelRules", "endSlotsOn", "(III)I"⟩ ∈ tws := tb_0 (List.mem_of_getElem? (i := 23) rfl) rfl
theorem ts_md_fails : Cond.selects "ChannelRulesModel" ⟨"ChannelRulesModel", "fails", "(I)I"⟩ ⟨"ChannelRulesModel", "fails", "(I)I"⟩ ∈ tws := tb_0 (List.mem_of_getElem? (i := 24) rfl) rfl
theorem ts_md_isPiece : Cond.selects "ChannelRulesModel" ⟨"ChannelRulesModel", "isPiece", "(I)Z"⟩ ⟨"ChannelRulesModel", "isPiece", "(I)Z"⟩ ∈ tws := tb_0 (List.mem_of_getElem? (i := 25) rfl) rfl
theorem ts_md_isShip : Cond.selects "ChannelRulesModel" ⟨"ChannelRulesModel", "isShip", "(I)Z"⟩ ⟨"ChannelRulesModel", "isShip", "(I)Z"⟩ ∈ tws := tb_0 (List.mem_of_getElem? (i := 26) rfl) rfl
theorem ts_md_lays : Cond.selects "ChannelRulesModel" ⟨"ChannelRulesModel", "lays", "(III)Z"⟩ ⟨"ChannelRulesModel", "lays", "(III)Z"⟩ ∈ tws := tb_0 (List.mem_of_getElem? (i := 27) rfl) rfl
theorem ts_md_timesTo : Cond.selects "ChannelRulesModel" ⟨"ChannelRulesModel", "timesTo", "(II)V"⟩ ⟨"ChannelRulesModel", "timesTo", "(II)V"⟩ ∈ tws := tb_0 (List.mem_of_getElem? (i := 28) rfl) rfl
theorem ts_md_takes : Cond.selects "ChannelRulesModel" ⟨"ChannelRulesModel", "takes", "(II)I"⟩ ⟨"ChannelRulesModel", "takes", "(II)I"⟩ ∈ tws := tb_0 (List.mem_of_getElem? (i := 29) rfl) rfl
theorem ts_md_next : Cond.selects "ChannelRulesModel" ⟨"ChannelRulesModel", "next", "(II)I"⟩ ⟨"ChannelRulesModel", "next", "(II)I"⟩ ∈ tws := tb_0 (List.mem_of_getElem? (i := 30) rfl) rfl
theorem ts_md_isPassage : Cond.selects "ChannelRulesModel" ⟨"ChannelRulesModel", "isPassage", "(IIII)Z"⟩ ⟨"ChannelRulesModel", "isPassage", "(IIII)Z"⟩ ∈ tws := tb_0 (List.mem_of_getElem? (i := 31) rfl) rfl
theorem ts_md_isTime : Cond.selects "ChannelRulesModel" ⟨"ChannelRulesModel", "isTime", "(I)Z"⟩ ⟨"ChannelRulesModel", "isTime", "(I)Z"⟩ ∈ tws := tb_0 (List.mem_of_getElem? (i := 32) rfl) rfl
theorem ts_md_against : Cond.selects "ChannelRulesModel" ⟨"ChannelRulesModel", "against", "(II)I"⟩ ⟨"ChannelRulesModel", "against", "(II)I"⟩ ∈ tws := tb_0 (List.mem_of_getElem? (i := 33) rfl) rfl
theorem ts_md_barred : Cond.selects "ChannelRulesModel" ⟨"ChannelRulesModel", "barred", "(II)I"⟩ ⟨"ChannelRulesModel", "barred", "(II)I"⟩ ∈ tws := tb_0 (List.mem_of_getElem? (i := 34) rfl) rfl
theorem ts_md_enters : Cond.selects "ChannelRulesModel" ⟨"ChannelRulesModel", "enters", "(II)I"⟩ ⟨"ChannelRulesModel", "enters", "(II)I"⟩ ∈ tws := tb_0 (List.mem_of_getElem? (i := 35) rfl) rfl
theorem ts_md_leaves : Cond.selects "ChannelRulesModel" ⟨"ChannelRulesModel", "leaves", "(II)I"⟩ ⟨"ChannelRulesModel", "leaves", "(II)I"⟩ ∈ tws := tb_0 (List.mem_of_getElem? (i := 36) rfl) rfl
theorem ts_md_with : Cond.selects "ChannelRulesModel" ⟨"ChannelRulesModel", "with", "(III)I"⟩ ⟨"ChannelRulesModel", "with", "(III)I"⟩ ∈ tws := tb_0 (List.mem_of_getElem? (i := 37) rfl) rfl
theorem ts_md_between : Cond.selects "ChannelRulesModel" ⟨"ChannelRulesModel", "between", "(IIII)I"⟩ ⟨"ChannelRulesModel", "between", "(IIII)I"⟩ ∈ tws := tb_0 (List.mem_of_getElem? (i := 38) rfl) rfl
theorem ts_md_isSlot : Cond.selects "ChannelRulesModel" ⟨"ChannelRulesModel", "isSlot", "(I)Z"⟩ ⟨"ChannelRulesModel", "isSlot", "(I)Z"⟩ ∈ tws := tb_0 (List.mem_of_getElem? (i := 39) rfl) rfl
theorem ts_md_conflicts : Cond.selects "ChannelRulesModel" ⟨"ChannelRulesModel", "conflicts", "(II)I"⟩ ⟨"ChannelRulesModel", "conflicts", "(II)I"⟩ ∈ tws := tb_0 (List.mem_of_getElem? (i := 40) rfl) rfl

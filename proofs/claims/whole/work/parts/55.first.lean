/-! the first world: all cells hold zeros -/
def s0 : St := fun _ _ => 0
def prm : List Nat := [0, 1, 10, 14, 23, 24, 2, 3, 4, 5, 6, 7, 8, 9, 11, 12, 13, 15, 16, 17, 18, 19, 20, 21, 22, 25, 26, 27, 28, 29, 30, 31, 32, 33, 34, 35, 36, 37, 38, 39, 40, 41, 42, 43, 44]
def adr (n0 k : Nat) : Nat := n0 + prm.getD k 0
theorem s0_hi (q j : Nat) : 0 ≤ hiB q j := by
  unfold hiB
  split <;> first | decide | (split <;> decide) | omega | (repeat (first | decide | split))
theorem s0_rel : Rel s0 := by
  refine ⟨fun q j _ => ⟨Int.le_refl _, s0_hi q j⟩, ⟨rfl, rfl, rfl, rfl, rfl⟩, ⟨rfl, rfl, rfl, rfl, rfl, rfl, rfl, rfl, rfl, rfl, rfl⟩, ⟨rfl, rfl, fun _ _ => rfl, rfl⟩, ⟨fun j h => ?_, fun j h => ?_, fun _ => ?_, fun _ => ?_, fun k h => ?_, fun _ => rfl⟩, fun k h1 h2 => ?_⟩
  · have h : (j : Int) < 0 := h
    omega
  · have h : (j : Int) < 0 := h
    omega
  · show (0 : Int) ≤ 2
    decide
  · show (0 : Int) ≤ 1
    decide
  · have h : (0 : Int) < 0 := h
    omega
  · have h2 : (k : Int) ≤ 0 := h2
    omega
theorem pP_l {D : va_G} {cl : List vw_C} {a b : va_W} {H : Heap} (h : va_P D cl (a ++ b) H) : va_P D cl a H := fun k q hk => h k q (by
  have hl : k < a.length := (List.getElem?_eq_some_iff.mp hk).1
  rw [List.getElem?_append_left hl]; exact hk)
theorem pP_r {D : va_G} {cl : List vw_C} {a b : va_W} {H : Heap} (h : va_P D cl (a ++ b) H) : va_P D cl b H := fun k q hk => h (a.length + k) q (by
  rw [List.getElem?_append_right (Nat.le_add_right _ _), Nat.add_sub_cancel_left]; exact hk)
theorem pP_1 {D : va_G} {cl : List vw_C} {x : Nat × va_E} {b : va_W} {H : Heap} (h : va_P D cl (x :: b) H) : va_at D cl x H := h 0 x rfl
theorem pP_t {D : va_G} {cl : List vw_C} {x : Nat × va_E} {b : va_W} {H : Heap} (h : va_P D cl (x :: b) H) : va_P D cl b H := fun k q hk => h (k + 1) q hk
set_option maxHeartbeats 4000000 in
theorem w_first (D : va_G) (acl : Nat → ClassId) (n0 : Nat) (H : Heap) (h_cr : va_P D cls_all (w_cr (D, adr n0, acl, n0) n0) H) (h_md : va_P D cls_all (w_md (D, adr n0, acl, n0) (n0 + 25)) H) (h_ln : va_P D cls_all [(n0 + 44, .inl (acl 2, 1, .inr (.inl (fun _ => lI 0))))] H) : va_P D cls_all (wld (D, adr n0, acl, n0) s0) H := by
  unfold w_cr at h_cr
  have cr_0 := pP_1 h_cr
  have t_cr := pP_t h_cr
  have i4 := pP_1 (pP_r t_cr)
  replace t_cr := pP_l t_cr
  have i8 := pP_1 (pP_r t_cr)
  replace t_cr := pP_l t_cr
  have h_ps := pP_r t_cr
  replace t_cr := pP_l t_cr
  have h_sh := pP_r t_cr
  replace t_cr := pP_l t_cr
  have h_pc := pP_r t_cr
  unfold w_pc at h_pc
  have pc_0 := pP_1 h_pc
  have t_pc := pP_t h_pc
  have pc_8 := pP_1 (pP_r t_pc)
  replace t_pc := pP_l t_pc
  have pc_7 := pP_1 (pP_r t_pc)
  replace t_pc := pP_l t_pc
  have pc_6 := pP_1 (pP_r t_pc)
  replace t_pc := pP_l t_pc
  have pc_5 := pP_1 (pP_r t_pc)
  replace t_pc := pP_l t_pc
  have pc_4 := pP_1 (pP_r t_pc)
  replace t_pc := pP_l t_pc
  have pc_3 := pP_1 (pP_r t_pc)
  replace t_pc := pP_l t_pc
  have pc_2 := pP_1 (pP_r t_pc)
  replace t_pc := pP_l t_pc
  have pc_1 := pP_1 (pP_r t_pc)
  replace t_pc := pP_l t_pc
  unfold w_sh at h_sh
  have sh_0 := pP_1 h_sh
  have t_sh := pP_t h_sh
  have sh_3 := pP_1 (pP_r t_sh)
  replace t_sh := pP_l t_sh
  have sh_2 := pP_1 (pP_r t_sh)
  replace t_sh := pP_l t_sh
  have sh_1 := pP_1 (pP_r t_sh)
  replace t_sh := pP_l t_sh
  unfold w_ps at h_ps
  have ps_0 := pP_1 h_ps
  have t_ps := pP_t h_ps
  have ps_8 := pP_1 (pP_r t_ps)
  replace t_ps := pP_l t_ps
  have ps_7 := pP_1 (pP_r t_ps)
  replace t_ps := pP_l t_ps
  have ps_6 := pP_1 (pP_r t_ps)
  replace t_ps := pP_l t_ps
  have ps_5 := pP_1 (pP_r t_ps)
  replace t_ps := pP_l t_ps
  have ps_4 := pP_1 (pP_r t_ps)
  replace t_ps := pP_l t_ps
  have ps_3 := pP_1 (pP_r t_ps)
  replace t_ps := pP_l t_ps
  have ps_2 := pP_1 (pP_r t_ps)
  replace t_ps := pP_l t_ps
  have ps_1 := pP_1 (pP_r t_ps)
  replace t_ps := pP_l t_ps
  unfold w_md at h_md
  have md_0 := pP_1 h_md
  have t_md := pP_t h_md
  have md_18 := pP_1 (pP_r t_md)
  replace t_md := pP_l t_md
  have md_17 := pP_1 (pP_r t_md)
  replace t_md := pP_l t_md
  have md_16 := pP_1 (pP_r t_md)
  replace t_md := pP_l t_md
  have md_15 := pP_1 (pP_r t_md)
  replace t_md := pP_l t_md
  have md_14 := pP_1 (pP_r t_md)
  replace t_md := pP_l t_md
  have md_13 := pP_1 (pP_r t_md)
  replace t_md := pP_l t_md
  have md_12 := pP_1 (pP_r t_md)
  replace t_md := pP_l t_md
  have md_11 := pP_1 (pP_r t_md)
  replace t_md := pP_l t_md
  have md_10 := pP_1 (pP_r t_md)
  replace t_md := pP_l t_md
  have md_9 := pP_1 (pP_r t_md)
  replace t_md := pP_l t_md
  have md_8 := pP_1 (pP_r t_md)
  replace t_md := pP_l t_md
  have md_7 := pP_1 (pP_r t_md)
  replace t_md := pP_l t_md
  have md_6 := pP_1 (pP_r t_md)
  replace t_md := pP_l t_md
  have md_5 := pP_1 (pP_r t_md)
  replace t_md := pP_l t_md
  have md_4 := pP_1 (pP_r t_md)
  replace t_md := pP_l t_md
  have md_3 := pP_1 (pP_r t_md)
  replace t_md := pP_l t_md
  have md_2 := pP_1 (pP_r t_md)
  replace t_md := pP_l t_md
  have md_1 := pP_1 (pP_r t_md)
  replace t_md := pP_l t_md
  have ln_0 := pP_1 h_ln
  intro k q hk
  have hl : k < 45 := by
    have := (List.getElem?_eq_some_iff.mp hk).1
    simp [wld] at this
    exact this
  rw [wd_at _ _ hl] at hk
  cases hk
  match k, hl with
  | 0, _ => exact cr_0
  | 1, _ => exact pc_0
  | 2, _ => exact sh_0
  | 3, _ => exact ps_0
  | 4, _ => exact i8
  | 5, _ => exact i4
  | 6, _ => exact pc_1
  | 7, _ => exact pc_2
  | 8, _ => exact pc_3
  | 9, _ => exact pc_4
  | 10, _ => exact pc_5
  | 11, _ => exact pc_6
  | 12, _ => exact pc_7
  | 13, _ => exact pc_8
  | 14, _ => exact sh_1
  | 15, _ => exact sh_2
  | 16, _ => exact sh_3
  | 17, _ => exact ps_1
  | 18, _ => exact ps_2
  | 19, _ => exact ps_3
  | 20, _ => exact ps_4
  | 21, _ => exact ps_5
  | 22, _ => exact ps_6
  | 23, _ => exact ps_7
  | 24, _ => exact ps_8
  | 25, _ => exact md_0
  | 26, _ => exact md_1
  | 27, _ => exact md_2
  | 28, _ => exact md_3
  | 29, _ => exact md_4
  | 30, _ => exact md_5
  | 31, _ => exact md_6
  | 32, _ => exact md_7
  | 33, _ => exact md_8
  | 34, _ => exact md_9
  | 35, _ => exact md_10
  | 36, _ => exact md_11
  | 37, _ => exact md_12
  | 38, _ => exact md_13
  | 39, _ => exact md_14
  | 40, _ => exact md_15
  | 41, _ => exact md_16
  | 42, _ => exact md_17
  | 43, _ => exact md_18
  | 44, _ => exact ln_0
  | n + 45, h => exact absurd h (by omega)
theorem w_apart (D : va_G) (acl : Nat → ClassId) (n0 : Nat) : va_D (gA (D, adr n0, acl, n0)) (wld (D, adr n0, acl, n0) s0) := by
  have key : ∀ (k : Nat) (q : Nat × va_E), (wld (D, adr n0, acl, n0) s0)[k]? = some q → k < 45 ∧ q.1 = n0 + prm.getD k 0 := by
    intro k q hk
    have hl : k < 45 := by
      have := (List.getElem?_eq_some_iff.mp hk).1
      simp [wld] at this
      exact this
    rw [wd_at _ _ hl] at hk
    cases hk
    exact ⟨hl, rfl⟩
  have inj : ∀ i, i < 45 → ∀ j, j < 45 → prm.getD i 0 = prm.getD j 0 → i = j := by decide +kernel
  refine ⟨fun i j x y hi hj hxy => ?_, fun k q hk => ?_⟩
  · obtain ⟨h1, h2⟩ := key i x hi
    obtain ⟨h3, h4⟩ := key j y hj
    exact inj i h1 j h3 (by omega)
  · obtain ⟨h1, h2⟩ := key k q hk
    show n0 ≤ q.1
    omega

/-! each call under a helper, as the law meets it -/
def Hp (S : St) : Prop := ∀ j : Nat, (j : Int) < S 25 10 → 1 ≤ S 35 j
def Hl (S : St) : Prop := ∀ j : Nat, (j : Int) < S 25 1 → 1 ≤ S 28 j
def Hso (S : St) : Prop := ∀ j : Nat, 0 < S 40 j → 1 ≤ S 35 (S 37 j).toNat
theorem wgen {S C Sh X : St} (h : Rel S) {k K km r rm : Int} (hkK : k = 0 ↔ K = 0) (hKb : 0 ≤ K ∧ K ≤ 2) (hSh : Sh = if k = 0 then s_up C 44 0 (iI r).toInt else C) (hC : ¬ k = 0 → C = S) (hmod : ∀ c, 25 ≤ c → c ≠ 44 → C c = S c) (hkm : km = K) (hX : k = 0 → Sm C Sh → Inv Sh ∧ Rel X ∧ X 25 0 = 0 ∧ X 44 0 = Sh 44 0 ∧ rm = r) :
    Inv Sh ∧ Hp Sh ∧ Hl Sh ∧ Hso Sh ∧ Rel (if km = 0 then X else s_up Sh 25 0 km) ∧ (if km = 0 then X else s_up Sh 25 0 km) 25 0 = K ∧ (K = 0 → (if km = 0 then rm else 0) = r ∧ (if km = 0 then X else s_up Sh 25 0 km) 44 0 = (iI r).toInt) := by
  subst hkm
  have hm : ∀ c, 25 ≤ c → c ≠ 44 → Sh c = S c := by
    intro c h1 h2
    rw [hSh]
    split
    · rw [s_up_cell h2, hmod c h1 h2]
    · exact hmod c h1 h2
  have hHp : Hp Sh := by unfold Hp; rw [hm 25 (by decide) (by decide), hm 35 (by decide) (by decide)]; exact rel_hp h
  have hHl : Hl Sh := by unfold Hl; rw [hm 25 (by decide) (by decide), hm 28 (by decide) (by decide)]; exact rel_hl h
  have hHs : Hso Sh := by unfold Hso; rw [hm 40 (by decide) (by decide), hm 35 (by decide) (by decide), hm 37 (by decide) (by decide)]; exact rel_so h
  by_cases hk : k = 0
  · have hK := hkK.mp hk
    have hs : Sh = s_up C 44 0 (iI r).toInt := by rw [hSh, if_pos hk]
    obtain ⟨a1, a2, a3, a4, a5⟩ := hX hk (fun c hc => by rw [hs, s_up_cell hc])
    refine ⟨a1, hHp, hHl, hHs, by rw [if_pos hK]; exact a2, by rw [if_pos hK, a3, hK], fun _ => ⟨by rw [if_pos hK]; exact a5, by rw [if_pos hK, a4, hs, s_up_self]⟩⟩
  · have hK : ¬ km = 0 := fun z => hk (hkK.mpr z)
    have hs : Sh = S := by rw [hSh, if_neg hk, hC hk]
    refine ⟨by rw [hs]; exact h.1, hHp, hHl, hHs, ?_, ?_, fun z => absurd z hK⟩
    · rw [if_neg hK, hs]
      exact th_rel h hKb
    · rw [if_neg hK, s_up_self]
theorem sh_hi {S C Sh : St} {k r : Int} (hSh : Sh = if k = 0 then s_up C 44 0 r else C) (hhi : ∀ c, 25 ≤ c → c ≠ 44 → C c = S c) {c : Nat} (h1 : 25 ≤ c) (h2 : c ≠ 44) : Sh c = S c := by
  rw [hSh]
  by_cases hk : k = 0
  · rw [if_pos hk, s_up_cell h2, hhi c h1 h2]
  · rw [if_neg hk, hhi c h1 h2]
theorem mLy_25 (T : St) (sh a b : Int) {c : Nat} (hc : c = 25 ∨ c = 44) : (mLy T sh a b).1 c = T c := by
  rw [mLy_ne _ _ _ _ (by omega) (by omega) (by omega), mL0_ne _ _ _ (by omega) (by omega) (by omega)]
theorem mCp_25x (U : St) (sh t : Int) (n : Nat) : mCp U sh t n 25 0 = U 25 0 ∧ mCp U sh t n 44 = U 44 := by
  rw [mCp_ne _ _ _ _ (show 25 ≠ 41 by decide) (by decide), mCp_ne _ _ _ _ (show 44 ≠ 41 by decide) (by decide), mG5_c _ _ _ (c := 44) (by decide)]
  unfold mG5
  rw [s_up_cell (by decide), s_up_cell (by decide), s_up_cell (by decide), s_up_cell (by decide), s_up_ne (by decide)]
  exact ⟨rfl, rfl⟩
theorem mEl_25 (t : Int) (f : Nat) (T : St) (v : Int) {c : Nat} (hc : c ≠ 38) : (mEl t f T v).1 c = T c := by
  induction f generalizing T v with
  | zero => rfl
  | succ f ih =>
    rw [mEl_s _ _ _ _ (by omega)]
    split
    · split
      · exact s_up_cell hc
      · rw [show f + 1 - 1 = f by omega, ih, s_up_cell hc]
    · rfl
theorem w_piece {S : St} (h : Rel S) {a b n w : Int} {Sh : St} (hSh : Sh = if kPc S a b n w = 0 then s_up (if kPc S a b n w = 0 then pAdd S a b n w else S) 44 0 (iI (S 1 0)).toInt else (if kPc S a b n w = 0 then pAdd S a b n w else S)) :
    Inv Sh ∧ Hp Sh ∧ Hl Sh ∧ Hso Sh ∧ Rel (if kmP Sh a b n w = 0 then mAdd (s_up Sh 25 0 0) a b n w else s_up Sh 25 0 (kmP Sh a b n w)) ∧ (if kmP Sh a b n w = 0 then mAdd (s_up Sh 25 0 0) a b n w else s_up Sh 25 0 (kmP Sh a b n w)) 25 0 = kPc S a b n w ∧ (kPc S a b n w = 0 → (if kmP Sh a b n w = 0 then Sh 25 1 else 0) = S 1 0 ∧ (if kmP Sh a b n w = 0 then mAdd (s_up Sh 25 0 0) a b n w else s_up Sh 25 0 (kmP Sh a b n w)) 44 0 = (iI (S 1 0)).toInt) := by
  have kr := kPc_r S a b n w
  have hhi : ∀ c, 25 ≤ c → c ≠ 44 → (if kPc S a b n w = 0 then pAdd S a b n w else S) c = S c := by
    intro c hc _
    split
    · unfold pAdd
      rw [s_up_cell (by omega), s_up_cell (by omega), s_up_cell (by omega), s_up_cell (by omega), s_up_cell (by omega), s_up_cell (by omega)]
    · rfl
  have h25 : Sh 25 = S 25 := by
    exact sh_hi hSh hhi (by decide) (by decide)
  refine wgen h Iff.rfl (by omega) hSh (fun hk => by rw [if_neg hk]) hhi (km_pc (by rw [h25]; exact h.2.1.1) h.1 a b n w) (fun hk hS => ?_)
  rw [if_pos hk] at hS
  obtain ⟨e1, e2⟩ := e_piece h hk hS
  exact ⟨e1, e2, by simp [mAdd, s_up_at], by simp [mAdd, s_up_at], by rw [h25]; exact h.2.1.1.symm⟩
theorem w_ship {S : St} (h : Rel S) {a b d : Int} {Sh : St} (hSh : Sh = if kSh S a b d = 0 then s_up (if kSh S a b d = 0 then sAdd S a b d else S) 44 0 (iI (S 2 0)).toInt else (if kSh S a b d = 0 then sAdd S a b d else S)) :
    Inv Sh ∧ Hp Sh ∧ Hl Sh ∧ Hso Sh ∧ Rel (if kmS Sh a b d = 0 then mSh (s_up Sh 25 0 0) a b d else s_up Sh 25 0 (kmS Sh a b d)) ∧ (if kmS Sh a b d = 0 then mSh (s_up Sh 25 0 0) a b d else s_up Sh 25 0 (kmS Sh a b d)) 25 0 = kSh S a b d ∧ (kSh S a b d = 0 → (if kmS Sh a b d = 0 then Sh 25 10 else 0) = S 2 0 ∧ (if kmS Sh a b d = 0 then mSh (s_up Sh 25 0 0) a b d else s_up Sh 25 0 (kmS Sh a b d)) 44 0 = (iI (S 2 0)).toInt) := by
  have kr := kSh_r S a b d
  have hhi : ∀ c, 25 ≤ c → c ≠ 44 → (if kSh S a b d = 0 then sAdd S a b d else S) c = S c := by
    intro c hc _
    split
    · unfold sAdd
      rw [s_up_cell (by omega), s_up_cell (by omega), s_up_cell (by omega), s_up_cell (by omega)]
    · rfl
  have h25 : Sh 25 = S 25 := by
    exact sh_hi hSh hhi (by decide) (by decide)
  refine wgen h Iff.rfl (by omega) hSh (fun hk => by rw [if_neg hk]) hhi (km_sh (by rw [h25]; exact h.2.1.2.1) h.1 a b d) (fun hk hS => ?_)
  rw [if_pos hk] at hS
  obtain ⟨e1, e2⟩ := e_ship h hk hS
  exact ⟨e1, e2, by simp [mSh, s_up_at], by simp [mSh, s_up_at], by rw [h25]; exact h.2.1.2.1.symm⟩
theorem w_route {S : St} (h : Rel S) {sh a b w : Int} {Sh : St} (hSh : Sh = if kRo S sh a b w = 0 then s_up (if kRo S sh a b w = 0 then (pRt S sh a b).1 else S) 44 0 (iI (rou S sh a b w)).toInt else (if kRo S sh a b w = 0 then (pRt S sh a b).1 else S)) :
    Inv Sh ∧ Hp Sh ∧ Hl Sh ∧ Hso Sh ∧ Rel (if kmR Sh sh a b w = 0 then (mLy (s_up Sh 25 0 0) sh a b).1 else s_up Sh 25 0 (kmR Sh sh a b w)) ∧ (if kmR Sh sh a b w = 0 then (mLy (s_up Sh 25 0 0) sh a b).1 else s_up Sh 25 0 (kmR Sh sh a b w)) 25 0 = kRo S sh a b w ∧ (kRo S sh a b w = 0 → (if kmR Sh sh a b w = 0 then mRo (s_up Sh 25 0 0) sh a b w else 0) = rou S sh a b w ∧ (if kmR Sh sh a b w = 0 then (mLy (s_up Sh 25 0 0) sh a b).1 else s_up Sh 25 0 (kmR Sh sh a b w)) 44 0 = (iI (rou S sh a b w)).toInt) := by
  have kr := kRo_r S sh a b w
  have hhi : ∀ c, 25 ≤ c → c ≠ 44 → (if kRo S sh a b w = 0 then (pRt S sh a b).1 else S) c = S c := by
    intro c hc _
    split
    · exact pRt_hi S sh a b hc
    · rfl
  have h25 : Sh 25 = S 25 := by
    exact sh_hi hSh hhi (by decide) (by decide)
  refine wgen h Iff.rfl (by omega) hSh (fun hk => by rw [if_neg hk]) hhi (km_ro (by rw [h25]; exact h.2.1.2.1) sh a b w) (fun hk hS => ?_)
  rw [if_pos hk] at hS
  obtain ⟨e1, e2, e3⟩ := e_route h hk hS
  exact ⟨e1, e2, by rw [mLy_25 _ _ _ _ (Or.inl rfl), s_up_self], by rw [mLy_25 _ _ _ _ (Or.inr rfl), s_up_cell (by decide)], e3⟩
theorem askS_hi (S : St) (sh a b t : Int) {c : Nat} (hc : 25 ≤ c) : askS S sh a b t c = S c := by
  unfold askS
  split
  · exact pRt_hi S sh a b hc
  · split
    · rw [gvg_hi _ hc, s_up_cell (by omega), pRt_hi S sh a b hc]
    · rw [s_up_cell (by omega), pRt_hi S sh a b hc]
theorem mAkS_x (T : St) (sh a b t : Int) : mAkS T sh a b t 25 0 = T 25 0 ∧ mAkS T sh a b t 44 = T 44 := by
  have u25 : mAkU T sh a b t 25 = T 25 := by unfold mAkU; rw [s_up_cell (by decide), mLy_25 _ _ _ _ (Or.inl rfl)]
  have u44 : mAkU T sh a b t 44 = T 44 := by unfold mAkU; rw [s_up_cell (by decide), mLy_25 _ _ _ _ (Or.inr rfl)]
  unfold mAkS
  split
  · exact ⟨by rw [mLy_25 _ _ _ _ (Or.inl rfl)], mLy_25 _ _ _ _ (Or.inr rfl)⟩
  · split
    · exact ⟨by rw [u25], u44⟩
    · obtain ⟨g1, g2⟩ := mCp_25x (mAkU T sh a b t) sh t (mAkU T sh a b t 40 0).toNat
      exact ⟨by rw [g1, u25], by rw [g2, u44]⟩
theorem w_ask {S : St} (h : Rel S) {sh a b t : Int} {Sh : St} (hSh : Sh = if kAs S sh a b t = 0 then s_up (if kAs S sh a b t = 0 then askS S sh a b t else S) 44 0 (iI (askR S sh a b t)).toInt else (if kAs S sh a b t = 0 then askS S sh a b t else S)) :
    Inv Sh ∧ Hp Sh ∧ Hl Sh ∧ Hso Sh ∧ Rel (if kmA Sh sh a b t = 0 then mAkS (s_up Sh 25 0 0) sh a b t else s_up Sh 25 0 (kmA Sh sh a b t)) ∧ (if kmA Sh sh a b t = 0 then mAkS (s_up Sh 25 0 0) sh a b t else s_up Sh 25 0 (kmA Sh sh a b t)) 25 0 = kAs S sh a b t ∧ (kAs S sh a b t = 0 → (if kmA Sh sh a b t = 0 then mAkR (s_up Sh 25 0 0) sh a b t else 0) = askR S sh a b t ∧ (if kmA Sh sh a b t = 0 then mAkS (s_up Sh 25 0 0) sh a b t else s_up Sh 25 0 (kmA Sh sh a b t)) 44 0 = (iI (askR S sh a b t)).toInt) := by
  have kr := kAs_r S sh a b t
  have hhi : ∀ c, 25 ≤ c → c ≠ 44 → (if kAs S sh a b t = 0 then askS S sh a b t else S) c = S c := by
    intro c hc _
    split
    · exact askS_hi S sh a b t hc
    · rfl
  have h25 : Sh 25 = S 25 := by
    exact sh_hi hSh hhi (by decide) (by decide)
  refine wgen h Iff.rfl (by omega) hSh (fun hk => by rw [if_neg hk]) hhi (km_as (by rw [h25]; exact h.2.1.2.1) (by rw [h25]; exact h.2.1.2.2.2.2) (by rw [h25]; exact h.2.1.2.2.1) h.1 sh a b t) (fun hk hS => ?_)
  rw [if_pos hk] at hS
  obtain ⟨e1, e2, e3⟩ := e_ask h hk hS
  obtain ⟨g1, g2⟩ := mAkS_x (s_up Sh 25 0 0) sh a b t
  exact ⟨e1, e2, by rw [g1, s_up_self], by rw [g2, s_up_cell (by decide)], e3⟩
theorem eaP_hi (S : St) (sh a b t : Int) {c : Nat} (hc : 25 ≤ c) : (eaP S sh a b t).1 c = S c := by
  have key : ∀ (f : Nat) (T : St) (v last : Int), (eaL last f T v).1 c = T c := by
    intro f
    induction f with
    | zero => intros; rfl
    | succ f ih =>
      intro T v last
      rw [eaL_s _ _ _ _ (by omega)]
      split
      · split
        · exact s_up_cell (by omega)
        · rw [show f + 1 - 1 = f by omega, ih, s_up_cell (by omega)]
      · rfl
  unfold eaP
  split
  · exact pRt_hi S sh a b hc
  · rw [key, pRt_hi S sh a b hc]
theorem mEp_x (T : St) (sh a b t : Int) : (mEp T sh a b t).1 25 = T 25 ∧ (mEp T sh a b t).1 44 = T 44 := by
  unfold mEp
  split
  · exact ⟨mLy_25 _ _ _ _ (Or.inl rfl), mLy_25 _ _ _ _ (Or.inr rfl)⟩
  · exact ⟨by rw [mEl_25 _ _ _ _ (by decide), mLy_25 _ _ _ _ (Or.inl rfl)], by rw [mEl_25 _ _ _ _ (by decide), mLy_25 _ _ _ _ (Or.inr rfl)]⟩
theorem w_earliest {S : St} (h : Rel S) {sh a b t : Int} {Sh : St} (hSh : Sh = if kEa S sh a b t = 0 then s_up (if kEa S sh a b t = 0 then (eaP S sh a b t).1 else S) 44 0 (iI ((eaP S sh a b t).2)).toInt else (if kEa S sh a b t = 0 then (eaP S sh a b t).1 else S)) :
    Inv Sh ∧ Hp Sh ∧ Hl Sh ∧ Hso Sh ∧ Rel (if kmE Sh sh a b t = 0 then (mEp (s_up Sh 25 0 0) sh a b t).1 else s_up Sh 25 0 (kmE Sh sh a b t)) ∧ (if kmE Sh sh a b t = 0 then (mEp (s_up Sh 25 0 0) sh a b t).1 else s_up Sh 25 0 (kmE Sh sh a b t)) 25 0 = kEa S sh a b t ∧ (kEa S sh a b t = 0 → (if kmE Sh sh a b t = 0 then (mEp (s_up Sh 25 0 0) sh a b t).2 else 0) = (eaP S sh a b t).2 ∧ (if kmE Sh sh a b t = 0 then (mEp (s_up Sh 25 0 0) sh a b t).1 else s_up Sh 25 0 (kmE Sh sh a b t)) 44 0 = (iI ((eaP S sh a b t).2)).toInt) := by
  have kr := kEa_r S sh a b t
  have hhi : ∀ c, 25 ≤ c → c ≠ 44 → (if kEa S sh a b t = 0 then (eaP S sh a b t).1 else S) c = S c := by
    intro c hc _
    split
    · exact eaP_hi S sh a b t hc
    · rfl
  have h25 : Sh 25 = S 25 := by
    exact sh_hi hSh hhi (by decide) (by decide)
  refine wgen h Iff.rfl (by omega) hSh (fun hk => by rw [if_neg hk]) hhi (km_ea (by rw [h25]; exact h.2.1.2.1) (by rw [h25]; exact h.2.1.2.2.2.2) sh a b t) (fun hk hS => ?_)
  rw [if_pos hk] at hS
  obtain ⟨e1, e2, e3⟩ := e_early h hk hS
  obtain ⟨g1, g2⟩ := mEp_x (s_up Sh 25 0 0) sh a b t
  exact ⟨e1, e2, by rw [g1, s_up_self], by rw [g2, s_up_cell (by decide)], e3⟩
theorem chS_hi (S : St) (k t : Int) {c : Nat} (hc : 25 ≤ c) : chS S k t c = S c := by
  unfold chS
  split
  · rfl
  · split
    · rw [s_up_cell (by omega)]
    · rw [s_up_old]
theorem chS_I {S : St} (h : Rel S) {k t : Int} (hk : kCh S k t = 0) : Inv (chS S k t) := by
  have i6 := iv_0 h.1 6
  have hb : S 0 6 ≤ t ∧ t ≤ 100000 := by
    unfold kCh at hk
    split at hk
    · rename_i c; exact wn_t c.2
    · omega
  unfold chS
  split
  · exact h.1
  · split
    · exact Inv.up (q := 19) h.1 (by omega) (show _ ≤ (100000 : Int) by omega)
    · rw [s_up_old]; exact h.1
theorem w_change {S : St} (h : Rel S) {k t : Int} {Sh : St} (hSh : Sh = if kCh S k t = 0 then s_up (if kCh S k t = 0 then chS S k t else S) 44 0 (iI (chR S k t)).toInt else (if kCh S k t = 0 then chS S k t else S)) :
    Inv Sh ∧ Hp Sh ∧ Hl Sh ∧ Hso Sh ∧ Rel (if kmC Sh k t = 0 then mChS (s_up Sh 25 0 0) k t else s_up Sh 25 0 (kmC Sh k t)) ∧ (if kmC Sh k t = 0 then mChS (s_up Sh 25 0 0) k t else s_up Sh 25 0 (kmC Sh k t)) 25 0 = kCh S k t ∧ (kCh S k t = 0 → (if kmC Sh k t = 0 then mChR (s_up Sh 25 0 0) k t else 0) = chR S k t ∧ (if kmC Sh k t = 0 then mChS (s_up Sh 25 0 0) k t else s_up Sh 25 0 (kmC Sh k t)) 44 0 = (iI (chR S k t)).toInt) := by
  have kr := kCh_r S k t
  have hhi : ∀ c, 25 ≤ c → c ≠ 44 → (if kCh S k t = 0 then chS S k t else S) c = S c := by
    intro c hc _
    split
    · exact chS_hi S k t hc
    · rfl
  have h25 : Sh 25 = S 25 := by
    exact sh_hi hSh hhi (by decide) (by decide)
  refine wgen h Iff.rfl (by omega) hSh (fun hk => by rw [if_neg hk]) hhi (km_ch (by rw [h25]; exact h.2.1.2.2.1) (by rw [h25]; exact h.2.1.2.2.2.2) k t) (fun hk hS => ?_)
  rw [if_pos hk] at hS
  obtain ⟨e1, e2, e3⟩ := e_change h hk hS (jn_mb h (mb_of h (fun c hc => chS_hi S k t hc) (chS_I h hk) hS))
  refine ⟨e1, e2, ?_, ?_, e3⟩
  · unfold mChS
    split
    · exact s_up_self _ _ _ _
    · split
      · rw [s_up_cell (by decide), s_up_cell (by decide), s_up_self]
      · rw [s_up_cell (by decide), s_up_self]
  · unfold mChS
    split
    · rw [s_up_cell (by decide)]
    · split
      · rw [s_up_cell (by decide), s_up_cell (by decide), s_up_cell (by decide)]
      · rw [s_up_cell (by decide), s_up_cell (by decide)]
theorem eSt_hi (S : St) (q a b : Int) (n : Nat) {c : Nat} (hc : 25 ≤ c) : eSt (aSp S q a b) q a b n c = S c := by
  rw [show eSt (aSp S q a b) q a b n c = aSp S q a b c from funext fun j => eSt_ne _ q a b _ (by omega)]
  unfold aSp
  rw [s_up_cell (by omega), s_up_cell (by omega), s_up_cell (by omega)]
theorem w_close {S : St} (h : Rel S) {q a b : Int} {Sh : St} (hSh : Sh = if kCl S q a b = 0 then s_up (if kCl S q a b = 0 then eSt (aSp S q a b) q a b (aSp S q a b 3 0).toNat else S) 44 0 (iI (eCt (aSp S q a b) q a b (aSp S q a b 3 0).toNat)).toInt else (if kCl S q a b = 0 then eSt (aSp S q a b) q a b (aSp S q a b 3 0).toNat else S)) :
    Inv Sh ∧ Hp Sh ∧ Hl Sh ∧ Hso Sh ∧ Rel (if kmX Sh q a b = 0 then mCs (mSa (s_up Sh 25 0 0) q a b) q a b (Sh 25 16).toNat else s_up Sh 25 0 (kmX Sh q a b)) ∧ (if kmX Sh q a b = 0 then mCs (mSa (s_up Sh 25 0 0) q a b) q a b (Sh 25 16).toNat else s_up Sh 25 0 (kmX Sh q a b)) 25 0 = kCl S q a b ∧ (kCl S q a b = 0 → (if kmX Sh q a b = 0 then mCc (mSa (s_up Sh 25 0 0) q a b) q a b (Sh 25 16).toNat else 0) = eCt (aSp S q a b) q a b (aSp S q a b 3 0).toNat ∧ (if kmX Sh q a b = 0 then mCs (mSa (s_up Sh 25 0 0) q a b) q a b (Sh 25 16).toNat else s_up Sh 25 0 (kmX Sh q a b)) 44 0 = (iI (eCt (aSp S q a b) q a b (aSp S q a b 3 0).toNat)).toInt) := by
  have kr := kCl_r S q a b
  have hhi : ∀ c, 25 ≤ c → c ≠ 44 → (if kCl S q a b = 0 then eSt (aSp S q a b) q a b (aSp S q a b 3 0).toNat else S) c = S c := by
    intro c hc _
    split
    · exact eSt_hi S q a b _ hc
    · rfl
  have hcc : ∀ c, 25 ≤ c → c ≠ 44 → Sh c = S c := by
    intro c h1 h2
    exact sh_hi hSh hhi h1 h2
  refine wgen h Iff.rfl (by omega) hSh (fun hk => by rw [if_neg hk]) hhi (km_cl h.1 (by rw [hcc 25 (by decide) (by decide)]; exact h.2.1.1) (by rw [hcc 25 (by decide) (by decide)]; exact h.2.1.2.2.2.2) (by rw [hcc 31 (by decide) (by decide)]; exact h.2.2.1.2.2.2.2.2.1) q a b) (fun hk hS => ?_)
  rw [if_pos hk] at hS
  obtain ⟨e1, e2, e3⟩ := e_close h hk hS
  refine ⟨e1, e2, ?_, ?_, e3⟩
  · rw [mCs_ne _ q a b _ (by decide)]
    unfold mSa
    rw [s_up_cell (by decide), s_up_cell (by decide), s_up_cell (by decide), s_up_self]
  · rw [mCs_ne _ q a b _ (by decide)]
    unfold mSa
    rw [s_up_cell (by decide), s_up_cell (by decide), s_up_cell (by decide), s_up_cell (by decide)]
theorem w_conflict {S : St} (h : Rel S) {i w : Int} {Sh : St} (hSh : Sh = if kCo w = 0 then s_up (if kCo w = 0 then coS S i else S) 44 0 (iI (coR S i w)).toInt else (if kCo w = 0 then coS S i else S)) :
    Inv Sh ∧ Hp Sh ∧ Hl Sh ∧ Hso Sh ∧ Rel (if kCo w = 0 then s_up Sh 25 0 0 else s_up Sh 25 0 (kCo w)) ∧ (if kCo w = 0 then s_up Sh 25 0 0 else s_up Sh 25 0 (kCo w)) 25 0 = kCo w ∧ (kCo w = 0 → (if kCo w = 0 then (if i < 0 then -1 else mCf (s_up Sh 25 0 0) i w) else 0) = coR S i w ∧ (if kCo w = 0 then s_up Sh 25 0 0 else s_up Sh 25 0 (kCo w)) 44 0 = (iI (coR S i w)).toInt) := by
  have kr := kCo_r w
  have hhi : ∀ c, 25 ≤ c → c ≠ 44 → (if kCo w = 0 then coS S i else S) c = S c := by
    intro c hc _
    split
    · unfold coS
      split
      · rfl
      · exact skO_ne _ _ _ (by omega)
    · rfl
  refine wgen h Iff.rfl (by omega) hSh (fun hk => by rw [if_neg hk]) hhi rfl (fun hk hS => ?_)
  rw [if_pos hk] at hS
  obtain ⟨e1, e2, e3⟩ := e_conf h hk hS
  exact ⟨e1, e2, s_up_self _ _ _ _, by rw [s_up_cell (by decide)], e3⟩
theorem w_at {S : St} (h : Rel S) {k i w : Int} {Sh : St} (hSh : Sh = if kAt S k i w = 0 then s_up S 44 0 (iI (atR S k i w)).toInt else S) :
    Inv Sh ∧ Hp Sh ∧ Hl Sh ∧ Hso Sh ∧ Rel (if kmT Sh k i w = 0 then s_up Sh 25 0 0 else s_up Sh 25 0 (kmT Sh k i w)) ∧ (if kmT Sh k i w = 0 then s_up Sh 25 0 0 else s_up Sh 25 0 (kmT Sh k i w)) 25 0 = (if kAt S k i w = 0 then 0 else 1) ∧ ((if kAt S k i w = 0 then (0 : Int) else 1) = 0 → (if kmT Sh k i w = 0 then mAtR (s_up Sh 25 0 0) k i w else 0) = atR S k i w ∧ (if kmT Sh k i w = 0 then s_up Sh 25 0 0 else s_up Sh 25 0 (kmT Sh k i w)) 44 0 = (iI (atR S k i w)).toInt) := by
  have hcc : ∀ c, c ≠ 44 → Sh c = S c := by
    intro c h2
    rw [hSh]
    split
    · rw [s_up_cell h2]
    · rfl
  refine wgen h (C := S) (k := kAt S k i w) (by split <;> simp_all) (by split <;> omega) hSh (fun _ => rfl) (fun _ _ _ => rfl) (km_at (by rw [hcc 25 (by decide)]; exact h.2.1.2.2.1) (by rw [hcc 40 (by decide)]; exact h.2.2.2.1.2.2.2) k i w) (fun hk hS => ?_)
  obtain ⟨e1, e2⟩ := e_at h hk hS
  exact ⟨hS.inv h.1, e1, s_up_self _ _ _ _, by rw [s_up_cell (by decide)], e2⟩

/-! the class's cells of one state beside the reference's of another -/
def rs (S : St) : St := fun c => if c < 25 then S c else fun _ => 0
def ms (S : St) : St := fun c => if c < 25 then (fun _ => 0) else if c < 44 then S c else fun _ => 0
def Jn (C M : St) : St := fun c => if c < 25 then C c else M c
theorem rs_J (C M : St) : rs (Jn C M) = rs C := by
  funext c
  unfold rs Jn
  split
  · rfl
  · rfl
theorem ms_J (C M : St) : ms (Jn C M) = ms M := by
  funext c
  unfold ms Jn
  split
  · rfl
  · rfl
theorem J_lo {C M : St} {c : Nat} (h : c < 25) : Jn C M c = C c := if_pos h
theorem J_hi {C M : St} {c : Nat} (h : ¬ c < 25) : Jn C M c = M c := if_neg h
theorem cfw_rs (S : St) : cfw S = cfw (rs S) := rfl
theorem enA_rs (S : St) : enA S = enA (rs S) := rfl
theorem clF_rs (S : St) (q a b : Int) (n : Nat) : clF S q a b n = clF (rs S) q a b n := by
  induction n with
  | zero => rfl
  | succ n ih => rw [clF_s, clF_s, ← ih]; rfl
theorem bPc_rs (S : St) (row i : Int) : bPc S row i = bPc (rs S) row i := by
  unfold bPc
  rw [clF_rs]
  rfl
theorem bSl_rs (S : St) (row i : Int) (n : Nat) : bSl S row i n = bSl (rs S) row i n := by
  induction n with
  | zero => rfl
  | succ n ih => rw [bSl_s, bSl_s, ← ih]; rfl
theorem brr_rs (S : St) (row i : Int) : brr S row i = brr (rs S) row i := by
  unfold brr
  rw [bPc_rs, bSl_rs]
  rfl
theorem fBr_rs (S : St) (row : Int) (i n : Nat) : fBr S row i n = fBr (rs S) row i n := by
  induction n generalizing i with
  | zero => rfl
  | succ n ih =>
    unfold fBr
    rw [brr_rs, ih]
theorem pWp_rs (S : St) (i : Int) : pWp S i = pWp (rs S) i := by
  unfold pWp
  rw [clF_rs]
  rfl
theorem pWs_rs (S : St) (i : Int) (n : Nat) : pWs S i n = pWs (rs S) i n := by
  induction n with
  | zero => rfl
  | succ n ih => rw [pWs_s, pWs_s, ← ih]; rfl
theorem pWt_rs (S : St) (n : Nat) : pWt S n = pWt (rs S) n := by
  induction n with
  | zero => rfl
  | succ n ih => rw [pWt_s, pWt_s, ← ih, pWp_rs, pWs_rs]; rfl
theorem mEn_ms (S : St) (k : Int) (n : Nat) : mEn S k n = mEn (ms S) k n := by
  induction n with
  | zero => rfl
  | succ n ih => rw [mEn_s, mEn_s, ← ih]; rfl
theorem mLv_ms (S : St) (k i : Int) : mLv S k i = mLv (ms S) k i := by
  unfold mLv
  rw [mEn_ms]
  rfl
theorem mSp_ms (S : St) (q a b : Int) (n g : Nat) : mSp S q a b n g = mSp (ms S) q a b n g := by
  induction g generalizing n with
  | zero => rfl
  | succ g ih => unfold mSp; rw [ih]; rfl
theorem mBr_ms (S : St) (k i : Int) : mBr S k i = mBr (ms S) k i := by
  unfold mBr mB1 mB2 mB3
  rw [mEn_ms, mLv_ms, mSp_ms]
  rfl
theorem mBt_ms (S : St) (k i r j : Int) : mBt S k i r j = mBt (ms S) k i r j := by
  unfold mBt
  rw [mEn_ms S k, mLv_ms S k, mEn_ms S r, mLv_ms S r]
  rfl
theorem mWt_ms (S : St) (k i r : Int) (n : Nat) : mWt S k i r n = mWt (ms S) k i r n := by
  induction n with
  | zero => rfl
  | succ n ih => rw [mWt_s, mWt_s, ← ih, mBt_ms]
theorem mGv_ms (S : St) (k i w r : Int) : mGv S k i w r = mGv (ms S) k i w r := by
  unfold mGv
  rw [mWt_ms]
  rfl
theorem mIn_ms (S : St) (k i w : Int) (g n : Nat) (L : Int) : mIn S k i w g n L = mIn (ms S) k i w g n L := by
  induction n generalizing g L with
  | zero => rfl
  | succ n ih => unfold mIn; rw [mGv_ms, ih]
theorem mAi_ms (S : St) (k i w : Int) : mAi S k i w = mAi (ms S) k i w := by
  unfold mAi
  rw [mIn_ms, mBr_ms]
  rfl
theorem mAg_ms (S : St) (k w : Int) (i n : Nat) : mAg S k w i n = mAg (ms S) k w i n := by
  induction n generalizing i with
  | zero => rfl
  | succ n ih => unfold mAg; rw [mAi_ms, ih]
theorem mCj_ms (S : St) (w k r : Int) (j n : Nat) (L : Int) : mCj S w k r j n L = mCj (ms S) w k r j n L := by
  induction n generalizing j L with
  | zero => rfl
  | succ n ih => rw [mCj_u, mCj_u, ← ih]; unfold mAn; rw [mWt_ms]; rfl
theorem mCr_ms (S : St) (w k : Int) (r n : Nat) (L : Int) : mCr S w k r n L = mCr (ms S) w k r n L := by
  induction n generalizing r L with
  | zero => rfl
  | succ n ih =>
    unfold mCr
    rw [mCj_ms]
    congr 1
    funext L
    exact ih (r + 1) L
theorem mCk_ms (S : St) (w : Int) (k n : Nat) (L : Int) : mCk S w k n L = mCk (ms S) w k n L := by
  induction n generalizing k L with
  | zero => rfl
  | succ n ih =>
    unfold mCk
    rw [mCr_ms]
    congr 1
    funext L
    exact ih (k + 1) L
theorem mCf_ms (S : St) (i w : Int) : mCf S i w = mCf (ms S) i w := by
  unfold mCf
  rw [mCk_ms]
  rfl

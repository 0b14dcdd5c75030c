/-! what every cell's numbers stay within -/
def hiB (q j : Nat) : Int := match q with
  | 0 => if j = 5 then 1 else 100000
  | 1 => 12
  | 2 => 12
  | 3 => 30
  | 4 => 1000000
  | 5 => 30
  | 6 => 7
  | 7 => 7
  | 8 => 100
  | 9 => 100
  | 10 => 100
  | 11 => 4
  | 12 => 100000
  | 13 => 100000
  | 14 => 100
  | 15 => 20
  | 16 => 2
  | 17 => 1
  | 18 => 11
  | 19 => 100000
  | 20 => 7
  | 21 => 11
  | 22 => 1
  | 23 => 100 * ((j % 8 : Nat) : Int)
  | 24 => 7
  | 25 => if j = 0 then 2 else if j = 1 then 12 else if j = 10 then 12 else if j = 14 then 1 else if j = 15 then 100000 else 30
  | 26 => 7
  | 27 => 7
  | 28 => 100
  | 29 => 100
  | 30 => 100
  | 31 => 4
  | 32 => 100000
  | 33 => 100000
  | 34 => 100
  | 35 => 20
  | 36 => 2
  | 37 => 11
  | 38 => 100000
  | 39 => 1
  | 40 => 7
  | 41 => 11
  | 42 => 1
  | 43 => 1000000
  | _ => 0
def Inv (S : St) : Prop := ∀ q j : Nat, q < 44 → 0 ≤ S q j ∧ S q j ≤ hiB q j
theorem Inv.up {S : St} (h : Inv S) {q i : Nat} {x : Int} (h0 : 0 ≤ x) (h1 : x ≤ hiB q i) : Inv (s_up S q i x) := by
  intro k j hk
  rw [s_up_at]
  by_cases hc : k = q ∧ j = i
  · rw [if_pos hc, hc.1, hc.2]
    exact ⟨h0, h1⟩
  · rw [if_neg hc]
    exact h k j hk
theorem iv_0 {S : St} (h : Inv S) (j : Nat) : 0 ≤ S 0 j ∧ S 0 j ≤ 100000 := by
  have h1 := h 0 j (by decide)
  have h2 : hiB 0 j ≤ 100000 := by
    show (if j = 5 then (1 : Int) else 100000) ≤ 100000
    split <;> omega
  exact ⟨h1.1, by omega⟩
theorem iv_0z {S : St} (h : Inv S) : 0 ≤ S 0 5 ∧ S 0 5 ≤ 1 := h 0 5 (by decide)
theorem iv_23 {S : St} (h : Inv S) (j : Nat) : 0 ≤ S 23 j ∧ S 23 j ≤ 700 := by
  have h1 := h 23 j (by decide)
  have h2 : hiB 23 j = 100 * ((j % 8 : Nat) : Int) := rfl
  have h3 : j % 8 < 8 := Nat.mod_lt _ (by decide)
  exact ⟨h1.1, by omega⟩
theorem iv_23x {S : St} (h : Inv S) (j : Nat) : 0 ≤ S 23 j ∧ S 23 j ≤ 100 * ((j % 8 : Nat) : Int) := h 23 j (by decide)
theorem iv_25 {S : St} (h : Inv S) (j : Nat) : 0 ≤ S 25 j ∧ S 25 j ≤ 100000 := by
  have h1 := h 25 j (by decide)
  have h2 : hiB 25 j ≤ 100000 := by
    show (if j = 0 then (2 : Int) else if j = 1 then 12 else if j = 10 then 12 else if j = 14 then 1 else if j = 15 then 100000 else 30) ≤ 100000
    repeat (first | omega | split)
  exact ⟨h1.1, by omega⟩
theorem iv_25p {S : St} (h : Inv S) : 0 ≤ S 25 1 ∧ S 25 1 ≤ 12 := h 25 1 (by decide)
theorem iv_25s {S : St} (h : Inv S) : 0 ≤ S 25 10 ∧ S 25 10 ≤ 12 := h 25 10 (by decide)
theorem iv_25w {S : St} (h : Inv S) : 0 ≤ S 25 14 ∧ S 25 14 ≤ 1 := h 25 14 (by decide)
theorem iv_25k {S : St} (h : Inv S) : 0 ≤ S 25 16 ∧ S 25 16 ≤ 30 := h 25 16 (by decide)
theorem iv_25t {S : St} (h : Inv S) : 0 ≤ S 25 0 ∧ S 25 0 ≤ 2 := h 25 0 (by decide)
theorem iv_1 {S : St} (h : Inv S) (j : Nat) : 0 ≤ S 1 j ∧ S 1 j ≤ 12 := h 1 j (by decide)
theorem iv_2 {S : St} (h : Inv S) (j : Nat) : 0 ≤ S 2 j ∧ S 2 j ≤ 12 := h 2 j (by decide)
theorem iv_3 {S : St} (h : Inv S) (j : Nat) : 0 ≤ S 3 j ∧ S 3 j ≤ 30 := h 3 j (by decide)
theorem iv_4 {S : St} (h : Inv S) (j : Nat) : 0 ≤ S 4 j ∧ S 4 j ≤ 1000000 := h 4 j (by decide)
theorem iv_5 {S : St} (h : Inv S) (j : Nat) : 0 ≤ S 5 j ∧ S 5 j ≤ 30 := h 5 j (by decide)
theorem iv_6 {S : St} (h : Inv S) (j : Nat) : 0 ≤ S 6 j ∧ S 6 j ≤ 7 := h 6 j (by decide)
theorem iv_7 {S : St} (h : Inv S) (j : Nat) : 0 ≤ S 7 j ∧ S 7 j ≤ 7 := h 7 j (by decide)
theorem iv_8 {S : St} (h : Inv S) (j : Nat) : 0 ≤ S 8 j ∧ S 8 j ≤ 100 := h 8 j (by decide)
theorem iv_9 {S : St} (h : Inv S) (j : Nat) : 0 ≤ S 9 j ∧ S 9 j ≤ 100 := h 9 j (by decide)
theorem iv_10 {S : St} (h : Inv S) (j : Nat) : 0 ≤ S 10 j ∧ S 10 j ≤ 100 := h 10 j (by decide)
theorem iv_11 {S : St} (h : Inv S) (j : Nat) : 0 ≤ S 11 j ∧ S 11 j ≤ 4 := h 11 j (by decide)
theorem iv_12 {S : St} (h : Inv S) (j : Nat) : 0 ≤ S 12 j ∧ S 12 j ≤ 100000 := h 12 j (by decide)
theorem iv_13 {S : St} (h : Inv S) (j : Nat) : 0 ≤ S 13 j ∧ S 13 j ≤ 100000 := h 13 j (by decide)
theorem iv_14 {S : St} (h : Inv S) (j : Nat) : 0 ≤ S 14 j ∧ S 14 j ≤ 100 := h 14 j (by decide)
theorem iv_15 {S : St} (h : Inv S) (j : Nat) : 0 ≤ S 15 j ∧ S 15 j ≤ 20 := h 15 j (by decide)
theorem iv_16 {S : St} (h : Inv S) (j : Nat) : 0 ≤ S 16 j ∧ S 16 j ≤ 2 := h 16 j (by decide)
theorem iv_17 {S : St} (h : Inv S) (j : Nat) : 0 ≤ S 17 j ∧ S 17 j ≤ 1 := h 17 j (by decide)
theorem iv_18 {S : St} (h : Inv S) (j : Nat) : 0 ≤ S 18 j ∧ S 18 j ≤ 11 := h 18 j (by decide)
theorem iv_19 {S : St} (h : Inv S) (j : Nat) : 0 ≤ S 19 j ∧ S 19 j ≤ 100000 := h 19 j (by decide)
theorem iv_20 {S : St} (h : Inv S) (j : Nat) : 0 ≤ S 20 j ∧ S 20 j ≤ 7 := h 20 j (by decide)
theorem iv_21 {S : St} (h : Inv S) (j : Nat) : 0 ≤ S 21 j ∧ S 21 j ≤ 11 := h 21 j (by decide)
theorem iv_22 {S : St} (h : Inv S) (j : Nat) : 0 ≤ S 22 j ∧ S 22 j ≤ 1 := h 22 j (by decide)
theorem iv_24 {S : St} (h : Inv S) (j : Nat) : 0 ≤ S 24 j ∧ S 24 j ≤ 7 := h 24 j (by decide)
theorem iv_26 {S : St} (h : Inv S) (j : Nat) : 0 ≤ S 26 j ∧ S 26 j ≤ 7 := h 26 j (by decide)
theorem iv_27 {S : St} (h : Inv S) (j : Nat) : 0 ≤ S 27 j ∧ S 27 j ≤ 7 := h 27 j (by decide)
theorem iv_28 {S : St} (h : Inv S) (j : Nat) : 0 ≤ S 28 j ∧ S 28 j ≤ 100 := h 28 j (by decide)
theorem iv_29 {S : St} (h : Inv S) (j : Nat) : 0 ≤ S 29 j ∧ S 29 j ≤ 100 := h 29 j (by decide)
theorem iv_30 {S : St} (h : Inv S) (j : Nat) : 0 ≤ S 30 j ∧ S 30 j ≤ 100 := h 30 j (by decide)
theorem iv_31 {S : St} (h : Inv S) (j : Nat) : 0 ≤ S 31 j ∧ S 31 j ≤ 4 := h 31 j (by decide)
theorem iv_32 {S : St} (h : Inv S) (j : Nat) : 0 ≤ S 32 j ∧ S 32 j ≤ 100000 := h 32 j (by decide)
theorem iv_33 {S : St} (h : Inv S) (j : Nat) : 0 ≤ S 33 j ∧ S 33 j ≤ 100000 := h 33 j (by decide)
theorem iv_34 {S : St} (h : Inv S) (j : Nat) : 0 ≤ S 34 j ∧ S 34 j ≤ 100 := h 34 j (by decide)
theorem iv_35 {S : St} (h : Inv S) (j : Nat) : 0 ≤ S 35 j ∧ S 35 j ≤ 20 := h 35 j (by decide)
theorem iv_36 {S : St} (h : Inv S) (j : Nat) : 0 ≤ S 36 j ∧ S 36 j ≤ 2 := h 36 j (by decide)
theorem iv_37 {S : St} (h : Inv S) (j : Nat) : 0 ≤ S 37 j ∧ S 37 j ≤ 11 := h 37 j (by decide)
theorem iv_38 {S : St} (h : Inv S) (j : Nat) : 0 ≤ S 38 j ∧ S 38 j ≤ 100000 := h 38 j (by decide)
theorem iv_39 {S : St} (h : Inv S) (j : Nat) : 0 ≤ S 39 j ∧ S 39 j ≤ 1 := h 39 j (by decide)
theorem iv_40 {S : St} (h : Inv S) (j : Nat) : 0 ≤ S 40 j ∧ S 40 j ≤ 7 := h 40 j (by decide)
theorem iv_41 {S : St} (h : Inv S) (j : Nat) : 0 ≤ S 41 j ∧ S 41 j ≤ 11 := h 41 j (by decide)
theorem iv_42 {S : St} (h : Inv S) (j : Nat) : 0 ≤ S 42 j ∧ S 42 j ≤ 1 := h 42 j (by decide)
theorem iv_43 {S : St} (h : Inv S) (j : Nat) : 0 ≤ S 43 j ∧ S 43 j ≤ 1000000 := h 43 j (by decide)

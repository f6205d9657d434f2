set_option maxRecDepth 20000
set_option maxHeartbeats 4000000
/-! Words: kinds -/
def kdW (j : Nat) : Nat := [10, 11, 12, 13, 14, 15, 20, 21, 22, 23, 24].getD j 0
theorem sp_ex {b : Nat → Nat} {f e i j : Nat} (hi : i < 11) (hj : j < 11) (h1 : spW b f e i = true) (h2 : spW b f e j = true) : i = j := by
  unfold spW at h1 h2
  rw [Bool.and_eq_true, decide_eq_true_eq, ahU_iff] at h1 h2
  have : ∀ i, i < 11 → ∀ j, j < 11 → wLn i = wLn j → (∀ k, k < wLn i → wB i k = wB j k) → i = j := by decide
  refine this i hi j hj (by omega) (fun k hk => ?_)
  have a := of_decide_eq_true (h1.2 k hk)
  have c := of_decide_eq_true (h2.2 k (by omega))
  omega
theorem wK_iff {b : Nat → Nat} {f e j : Nat} (hj : j < 11) : (wK b f e = kdW j) = (spW b f e j = true) := by
  have hit : ∀ i, i < 11 → spW b f e i = true → (kdW i = kdW j) = (spW b f e j = true) := by
    intro i hi h
    apply propext
    constructor
    · intro z
      have : ∀ i, i < 11 → ∀ j, j < 11 → kdW i = kdW j → i = j := by decide
      rw [← this i hi j hj z]
      exact h
    · intro z
      rw [sp_ex hi hj h z]
  unfold wK
  by_cases s0 : spW b f e 0 = true
  · rw [if_pos s0]; exact hit 0 (by omega) s0
  rw [if_neg s0]
  by_cases s1 : spW b f e 1 = true
  · rw [if_pos s1]; exact hit 1 (by omega) s1
  rw [if_neg s1]
  by_cases s2 : spW b f e 2 = true
  · rw [if_pos s2]; exact hit 2 (by omega) s2
  rw [if_neg s2]
  by_cases s3 : spW b f e 3 = true
  · rw [if_pos s3]; exact hit 3 (by omega) s3
  rw [if_neg s3]
  by_cases s4 : spW b f e 4 = true
  · rw [if_pos s4]; exact hit 4 (by omega) s4
  rw [if_neg s4]
  by_cases s5 : spW b f e 5 = true
  · rw [if_pos s5]; exact hit 5 (by omega) s5
  rw [if_neg s5]
  by_cases s6 : spW b f e 6 = true
  · rw [if_pos s6]; exact hit 6 (by omega) s6
  rw [if_neg s6]
  by_cases s7 : spW b f e 7 = true
  · rw [if_pos s7]; exact hit 7 (by omega) s7
  rw [if_neg s7]
  by_cases s8 : spW b f e 8 = true
  · rw [if_pos s8]; exact hit 8 (by omega) s8
  rw [if_neg s8]
  by_cases s9 : spW b f e 9 = true
  · rw [if_pos s9]; exact hit 9 (by omega) s9
  rw [if_neg s9]
  by_cases s10 : spW b f e 10 = true
  · rw [if_pos s10]; exact hit 10 (by omega) s10
  rw [if_neg s10]
  apply propext
  constructor
  · intro z
    have : ∀ j, j < 11 → ¬ 1 = kdW j := by decide
    exact absurd z (this j hj)
  · intro z
    rcases (show j = 0 ∨ j = 1 ∨ j = 2 ∨ j = 3 ∨ j = 4 ∨ j = 5 ∨ j = 6 ∨ j = 7 ∨ j = 8 ∨ j = 9 ∨ j = 10 by omega) with r | r | r | r | r | r | r | r | r | r | r <;> subst r <;> contradiction

set_option maxRecDepth 20000
set_option maxHeartbeats 4000000
/-! The model's token against the kind -/
def kS (b : Nat → Nat) (L t : Nat) : Nat := if t < L then lxK b L t else 0
def vS (b : Nat → Nat) (L t : Nat) : Nat := if t < L then lxV b L t else 0
theorem wK_in {b : Nat → Nat} {f e : Nat} : 1 ≤ wK b f e ∧ wK b f e ≤ 24 ∧ wK b f e ≠ 2 := by
  unfold wK
  repeat' split
  all_goals decide
theorem kd_in {j : Nat} (hj : j < 11) : 10 ≤ kdW j ∧ kdW j ≤ 24 := by
  have : ∀ j, j < 11 → 10 ≤ kdW j ∧ kdW j ≤ 24 := by decide
  exact this j hj
theorem cyS_in {x : Nat} : cyS x = true ↔ 58 ≤ x ∧ x ≤ 62 := by
  unfold cyS
  rw [Bool.and_eq_true, decide_eq_true_eq, decide_eq_true_eq]
theorem tk_word {b : Nat → Nat} {L t j : Nat} (hj : j < 11) : (moS b L t = 2 ∧ moG b L t = tL (wdN (wB j) 0 (wLn j))) = (kS b L t = kdW j) := by
  have kj := kd_in hj
  unfold moS moG kS lxK
  by_cases c : t < L
  · rw [if_pos c, if_pos c, if_pos c]
    by_cases c1 : cyL (b t) = true
    · rw [if_pos c1, if_pos c1, if_pos c1, wK_iff hj, wd_iff hj]
      · exact propext ⟨fun h => h.2, fun h => ⟨rfl, h⟩⟩
      · intro i h1 h2
        have le : lxE b L t = rE cyL b L t (L - t) := by unfold lxE; rw [if_pos c1, rE_1 c c1]
        rw [le] at h2
        have := rE_in _ _ _ h1 h2
        unfold cyL at this
        rw [Bool.and_eq_true, decide_eq_true_eq, decide_eq_true_eq] at this
        exact ⟨this.1, by omega⟩
    · rw [if_neg c1, if_neg c1, if_neg c1]
      apply propext
      constructor
      · intro h
        have h1 := h.1
        by_cases c2 : cyD (b t) = true
        · rw [if_pos c2] at h1
          by_cases c3 : lxE b L t - t ≤ 3
          · rw [if_pos c3] at h1; omega
          · rw [if_neg c3] at h1; omega
        · rw [if_neg c2] at h1
          by_cases c3 : cyS (b t) = true
          · rw [if_pos c3] at h1; omega
          · rw [if_neg c3] at h1; omega
      · intro h
        by_cases c2 : cyD (b t) = true
        · rw [if_pos c2] at h
          by_cases c3 : lxE b L t - t ≤ 3
          · rw [if_pos c3] at h; omega
          · rw [if_neg c3] at h; omega
        · rw [if_neg c2] at h
          by_cases c3 : cyS (b t) = true
          · rw [if_pos c3] at h
            have := cyS_in.1 c3
            omega
          · rw [if_neg c3] at h; omega
  · rw [if_neg c, if_neg c, if_neg c]
    exact propext ⟨fun h => absurd h.1 (by omega), fun h => absurd h (by omega)⟩

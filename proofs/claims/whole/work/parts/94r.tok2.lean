set_option maxRecDepth 20000
set_option maxHeartbeats 4000000
/-! The model's token against the kind: signs, numbers, the end -/
theorem tk_cases {b : Nat → Nat} {L t : Nat} : (moS b L t = 0 ∧ kS b L t = 0) ∨ (moS b L t = 1 ∧ kS b L t = 1) ∨ (moS b L t = 2 ∧ 1 ≤ kS b L t ∧ kS b L t ≤ 24 ∧ kS b L t ≠ 2) ∨ (moS b L t = 3 ∧ kS b L t = 2 ∧ moV b L t = vS b L t) ∨ (moS b L t = 4 ∧ 58 ≤ kS b L t ∧ kS b L t ≤ 62 ∧ moV b L t = kS b L t) := by
  unfold moS kS vS moV lxK lxV
  by_cases c : t < L
  · rw [if_pos c, if_pos c, if_pos c, if_pos c]
    by_cases c1 : cyL (b t) = true
    · rw [if_pos c1, if_pos c1, if_pos c1, if_pos c1]
      exact Or.inr (Or.inr (Or.inl ⟨rfl, wK_in⟩))
    · rw [if_neg c1, if_neg c1, if_neg c1, if_neg c1]
      by_cases c2 : cyD (b t) = true
      · rw [if_pos c2, if_pos c2, if_pos c2, if_pos c2]
        by_cases c3 : lxE b L t - t ≤ 3
        · rw [if_pos c3, if_pos c3, show min (lxE b L t - t) 3 = lxE b L t - t by omega]
          exact Or.inr (Or.inr (Or.inr (Or.inl ⟨rfl, rfl, rfl⟩)))
        · rw [if_neg c3, if_neg c3]
          exact Or.inr (Or.inl ⟨rfl, rfl⟩)
      · rw [if_neg c2, if_neg c2, if_neg c2, if_neg c2]
        by_cases c3 : cyS (b t) = true
        · rw [if_pos c3, if_pos c3]
          have := cyS_in.1 c3
          exact Or.inr (Or.inr (Or.inr (Or.inr ⟨rfl, this.1, this.2, rfl⟩)))
        · rw [if_neg c3, if_neg c3]
          exact Or.inr (Or.inl ⟨rfl, rfl⟩)
  · rw [if_neg c, if_neg c, if_neg c, if_neg c]
    exact Or.inl ⟨rfl, rfl⟩

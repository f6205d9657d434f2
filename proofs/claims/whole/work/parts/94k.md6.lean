set_option maxRecDepth 20000
set_option maxHeartbeats 4000000
/-! MODEL: next -/
theorem rE_end {p : Nat → Bool} {b : Nat → Nat} {L : Nat} : ∀ m i, i + m = L → rE p b L i m < L → p (b (rE p b L i m)) = false
  | 0, i, e, h => by
    unfold rE at h
    omega
  | m + 1, i, e, h => by
    unfold rE at h ⊢
    by_cases c : i < L ∧ p (b i) = true
    · rw [if_pos c] at h ⊢
      exact rE_end m (i + 1) (by omega) h
    · rw [if_neg c] at h ⊢
      by_cases d : p (b i) = true
      · exact absurd ⟨h, d⟩ c
      · exact Bool.eq_false_iff.2 d
theorem m_154 {X : mX} {D : Nat} {P : mPost} {A : Nat → Nat → Nat} {G : mG} {b : Nat → Nat} {a g s v : Nat} (hD : 2 ≤ D) (hL : A 185 31 ≤ 300) (ha : a ≤ A 185 31) (hb : ∀ i, i < A 185 31 → b i < 256 ∧ A 186 i = sb (b i)) : mCall X D 154 [.ref 185] (mN (moW A a g s v), RF, G, mSh) P = P none (mN (moW A (moE b (A 185 31) (tkS b (A 185 31) a)) (tkS b (A 185 31) a) (moS b (A 185 31) (tkS b (A 185 31) a)) (moV b (A 185 31) (tkS b (A 185 31) a))), RF, mV G 185 35 (moG b (A 185 31) (tkS b (A 185 31) a)), mSh) := by
  rw [e_154 (by omega), l_154a (b := b) (by omega) hL hb (A 185 31 - a) a (by omega)]
  exact l_154 (by omega) hL (rE_le _ _ ha) hb (fun h => rE_end _ _ (by omega) h)

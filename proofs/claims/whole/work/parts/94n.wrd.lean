set_option maxRecDepth 20000
set_option maxHeartbeats 4000000
/-! Words by their longs -/
theorem wd_inj {b c : Nat → Nat} {f g : Nat} : ∀ n m, (∀ i, i < n → 1 ≤ b (f + i) ∧ b (f + i) < 256) → (∀ i, i < m → 1 ≤ c (g + i) ∧ c (g + i) < 256) → wdN b f n = wdN c g m → n = m ∧ ∀ i, i < n → b (f + i) = c (g + i)
  | 0, 0, _, _, _ => ⟨rfl, fun i h => absurd h (by omega)⟩
  | 0, m + 1, _, hc, e => by
    have := hc m (by omega)
    rw [wdN, wdN] at e
    omega
  | n + 1, 0, hb, _, e => by
    have := hb n (by omega)
    rw [wdN, wdN] at e
    omega
  | n + 1, m + 1, hb, hc, e => by
    have h1 := hb n (by omega)
    have h2 := hc m (by omega)
    rw [wdN, wdN] at e
    obtain ⟨r1, r2⟩ := wd_inj n m (fun i hi => hb i (by omega)) (fun i hi => hc i (by omega)) (by omega)
    refine ⟨by omega, fun i hi => ?_⟩
    by_cases z : i = n
    · rw [z]
      subst r1
      omega
    · exact r2 i (by omega)
theorem wd_lt {b : Nat → Nat} {f : Nat} : ∀ n, (∀ i, i < n → b (f + i) < 256) → wdN b f n < 256 ^ n
  | 0, _ => Nat.lt_of_lt_of_le Nat.zero_lt_one (Nat.le_refl _)
  | n + 1, h => by
    have i1 := wd_lt n (fun i hi => h i (by omega))
    have i2 := h n (by omega)
    rw [wdN, Nat.pow_succ]
    omega

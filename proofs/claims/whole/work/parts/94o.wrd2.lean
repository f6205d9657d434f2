set_option maxRecDepth 20000
set_option maxHeartbeats 4000000
/-! Words by their longs: the eleven -/
theorem tL_inj {x y : Nat} (hx : x < 18446744073709551616) (hy : y < 18446744073709551616) (h : tL x = tL y) : x = y := by
  have h1 : (tL x).toBitVec = (tL y).toBitVec := by rw [h]
  rw [tL_bv, tL_bv] at h1
  have h2 := congrArg BitVec.toNat h1
  rw [BitVec.toNat_ofNat, BitVec.toNat_ofNat] at h2
  omega
theorem ahU_iff {f : Nat → Bool} : ∀ n, ahU f n = true ↔ ∀ i, i < n → f i = true
  | 0 => ⟨fun _ i h => absurd h (by omega), fun _ => rfl⟩
  | n + 1 => by
    rw [ahU, Bool.and_eq_true, ahU_iff n]
    constructor
    · intro h i hi
      by_cases z : i = n
      · rw [z]; exact h.2
      · exact h.1 i (by omega)
    · intro h
      exact ⟨fun i hi => h i (by omega), h n (by omega)⟩
theorem wB_ok {j : Nat} (hj : j < 11) : ∀ i, i < wLn j → 1 ≤ wB j (0 + i) ∧ wB j (0 + i) < 256 := by
  have : ∀ j, j < 11 → ∀ i, i < wLn j → 1 ≤ wB j (0 + i) ∧ wB j (0 + i) < 256 := by decide
  exact this j hj
theorem p8 {n : Nat} (h : n ≤ 8) : 256 ^ n ≤ 18446744073709551616 := Nat.le_trans (Nat.pow_le_pow_right (by decide) h) (by decide)
theorem wd_iff {b : Nat → Nat} {f e j : Nat} (hj : j < 11) (hl : ∀ i, f ≤ i → i < e → 97 ≤ b i ∧ b i ≤ 122) : ((if e - f ≤ 8 then tL (wdN b f (e - f)) else 0) = tL (wdN (wB j) 0 (wLn j))) = (spW b f e j = true) := by
  have l5 := wLn_5 hj
  have ok := wB_ok hj
  have lj : 1 ≤ wLn j := by
    have : ∀ j, j < 11 → 1 ≤ wLn j := by decide
    exact this j hj
  have hb : ∀ i, i < e - f → 1 ≤ b (f + i) ∧ b (f + i) < 256 := fun i hi => by
    have := hl (f + i) (by omega) (by omega)
    omega
  have bw : wdN (wB j) 0 (wLn j) < 18446744073709551616 := Nat.lt_of_lt_of_le (wd_lt _ (fun i hi => (ok i hi).2)) (p8 (by omega))
  unfold spW
  rw [Bool.and_eq_true, decide_eq_true_eq, ahU_iff]
  apply propext
  constructor
  · intro h
    by_cases c : e - f ≤ 8
    · rw [if_pos c] at h
      have bb : wdN b f (e - f) < 18446744073709551616 := Nat.lt_of_lt_of_le (wd_lt _ (fun i hi => (hb i hi).2)) (p8 c)
      obtain ⟨r1, r2⟩ := wd_inj _ _ hb ok (tL_inj bb bw h)
      refine ⟨r1, fun i hi => ?_⟩
      have := r2 i (by omega)
      rw [Nat.zero_add] at this
      exact decide_eq_true this
    · rw [if_neg c] at h
      have h0 : wdN (wB j) 0 0 = wdN (wB j) 0 (wLn j) := tL_inj (by rw [wdN]; omega) bw h
      have := (wd_inj (b := wB j) (c := wB j) (f := 0) (g := 0) 0 (wLn j) (fun i hi => absurd hi (by omega)) ok h0).1
      omega
  · intro h
    rw [if_pos (by omega), h.1]
    have : ∀ n, n ≤ wLn j → wdN b f n = wdN (wB j) 0 n := by
      intro n
      induction n with
      | zero => intro _; rfl
      | succ n ih =>
        intro hn
        have a := of_decide_eq_true (h.2 n (by omega))
        rw [wdN, wdN, ih (by omega), a, Nat.zero_add]
    rw [this _ (Nat.le_refl _)]

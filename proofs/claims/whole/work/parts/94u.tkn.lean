set_option maxRecDepth 20000
set_option maxHeartbeats 4000000
/-! TOKENS by their number: the table of the one side tells the tokens of the other -/
theorem lxK_1 {b : Nat → Nat} {L t : Nat} : 1 ≤ lxK b L t := by
  unfold lxK
  by_cases c1 : cyL (b t) = true
  · rw [if_pos c1]; exact wK_in.1
  · rw [if_neg c1]
    by_cases c2 : cyD (b t) = true
    · rw [if_pos c2]
      by_cases c3 : lxE b L t - t ≤ 3
      · rw [if_pos c3]; omega
      · rw [if_neg c3]; omega
    · rw [if_neg c2]
      by_cases c3 : cyS (b t) = true
      · rw [if_pos c3]
        have := cyS_in.1 c3
        omega
      · rw [if_neg c3]; omega
theorem lx_dig {b : Nat → Nat} {L t : Nat} (c : t < L) (c1 : ¬ cyL (b t) = true) (c2 : cyD (b t) = true) : ∀ i, i < lxE b L t - t → 48 ≤ b (t + i) ∧ b (t + i) ≤ 57 := by
  have le : lxE b L t = rE cyD b L t (L - t) := by unfold lxE; rw [if_neg c1, if_pos c2, rE_1 c c2]
  intro i hi
  rw [le] at hi
  have := rE_in (p := cyD) (b := b) (L := L) (L - t) t (t + i) (by omega) (by omega)
  unfold cyD at this
  rw [Bool.and_eq_true, decide_eq_true_eq, decide_eq_true_eq] at this
  exact ⟨this.1, by omega⟩
theorem vS_9 {b : Nat → Nat} {L t : Nat} (h : kS b L t = 2) : vS b L t ≤ 999 := by
  unfold kS at h
  unfold vS
  by_cases c : t < L
  · rw [if_pos c] at h ⊢
    unfold lxK at h
    unfold lxV
    by_cases c1 : cyL (b t) = true
    · rw [if_pos c1] at h
      exact absurd h wK_in.2.2
    · rw [if_neg c1] at h ⊢
      by_cases c2 : cyD (b t) = true
      · rw [if_pos c2] at h ⊢
        by_cases c3 : lxE b L t - t ≤ 3
        · have n3 := nu_3 (lx_dig c c1 c2)
          rw [show min (lxE b L t - t) 3 = lxE b L t - t by omega] at n3
          exact n3
        · rw [if_neg c3] at h
          omega
      · rw [if_neg c2]
        omega
  · rw [if_neg c]
    omega
theorem moV_lt {b : Nat → Nat} {L t : Nat} (hb : ∀ i, i < L → b i < 256) : moV b L t < 4294967296 := by
  unfold moV
  by_cases c : t < L
  · have := hb t c
    rw [if_pos c]
    by_cases c1 : cyL (b t) = true
    · rw [if_pos c1]; omega
    · rw [if_neg c1]
      by_cases c2 : cyD (b t) = true
      · rw [if_pos c2]
        have n3 := nu_3 (lx_dig c c1 c2)
        omega
      · rw [if_neg c2]; omega
  · rw [if_neg c]; omega
def TK (b : Nat → Nat) (L N : Nat) (K V S : Nat → Nat) : Prop := N ≤ 300 ∧ L ≤ 300 ∧ (∀ i, i < L → b i < 256) ∧ K N = 0 ∧ ∀ n, n ≤ N → S n ≤ L ∧ kS b L (S n) = K n ∧ vS b L (S n) = V n ∧ nS b L (S n) = S (stI N n) ∧ (K n = 0 → n = N)
theorem TK_of {A : Nat → Nat → Nat} {b : Nat → Nat} {L N : Nat} (hL : L ≤ 300) (hb : ∀ i, i < L → b i < 256) (h : tabOK A b L N) : TK b L N (A 182) (A 183) (A 184) := by
  obtain ⟨t1, t2, t3, t4, t5⟩ := h
  refine ⟨t1, hL, hb, ?_, fun n hn => ?_⟩
  · rw [(t5 N (Nat.le_refl _)).1]
    unfold tkK
    rw [t4, if_neg (by omega)]
  · obtain ⟨k1, k2, k3⟩ := t5 n hn
    refine ⟨?_, ?_, ?_, ?_, ?_⟩
    · rw [k3]; exact (tkS_le (tps_le n)).2
    · rw [k1, k3]; rfl
    · rw [k2, k3]; rfl
    · unfold stI
      by_cases c : n < N
      · rw [if_pos c, (t5 (n + 1) (by omega)).2.2, k3]
        have := t3 n c
        unfold nS moE
        show tkS b L _ = tkS b L (tkN b L (tps b L n))
        unfold tkN
        rw [if_pos this]
        exact congrArg (tkS b L) (if_pos this).symm
      · obtain rfl : n = N := by omega
        rw [if_neg c, k3, t4]
        unfold nS moE
        rw [if_neg (by omega)]
        have := tkS_le (b := b) (L := L) (pos := L) (Nat.le_refl _)
        omega
    · intro z
      by_cases c : n < N
      · rw [k1] at z
        unfold tkK at z
        rw [if_pos (t3 n c)] at z
        have := lxK_1 (b := b) (L := L) (t := tkS b L (tps b L n))
        omega
      · omega
section
variable {b : Nat → Nat} {L N : Nat} {K V S : Nat → Nat} {n : Nat}
theorem tk_k (h : TK b L N K V S) (hn : n ≤ N) : K n ≤ 62 := by
  have h1 := (h.2.2.2.2 n hn).2.1
  have h2 := tk_cases (b := b) (L := L) (t := S n)
  rw [h1] at h2
  omega
theorem tk_v (h : TK b L N K V S) (hn : n ≤ N) (h2 : K n = 2) : V n ≤ 999 := by
  obtain ⟨-, h1, h3, -⟩ := h.2.2.2.2 n hn
  rw [← h3]
  exact vS_9 (h1.trans h2)
theorem tk_s3 (h : TK b L N K V S) (hn : n ≤ N) : (moS b L (S n) = 3) = (K n = 2) := by
  have h1 := (h.2.2.2.2 n hn).2.1
  have h2 := tk_cases (b := b) (L := L) (t := S n)
  rw [h1] at h2
  apply propext
  constructor <;> intro z <;> omega
theorem tk_s0 (h : TK b L N K V S) (hn : n ≤ N) : (moS b L (S n) = 0) = (K n = 0) := by
  have h1 := (h.2.2.2.2 n hn).2.1
  have h2 := tk_cases (b := b) (L := L) (t := S n)
  rw [h1] at h2
  apply propext
  constructor <;> intro z <;> omega
theorem tk_mv (h : TK b L N K V S) (hn : n ≤ N) (h4 : K n = 2) : moV b L (S n) = V n := by
  obtain ⟨-, h1, h3, -⟩ := h.2.2.2.2 n hn
  have h2 := tk_cases (b := b) (L := L) (t := S n)
  rw [h1, h3] at h2
  omega
theorem tk_sg (h : TK b L N K V S) (hn : n ≤ N) (h4 : 58 ≤ K n) : moS b L (S n) = 4 ∧ moV b L (S n) = K n := by
  have h1 := (h.2.2.2.2 n hn).2.1
  have h2 := tk_cases (b := b) (L := L) (t := S n)
  rw [h1] at h2
  omega
theorem tk_ns (h : TK b L N K V S) (hn : n ≤ N) (h4 : K n < 58) : moS b L (S n) ≠ 4 := by
  have h1 := (h.2.2.2.2 n hn).2.1
  have h2 := tk_cases (b := b) (L := L) (t := S n)
  rw [h1] at h2
  omega
end

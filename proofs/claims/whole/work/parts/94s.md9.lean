set_option maxRecDepth 20000
set_option maxHeartbeats 4000000
/-! MODEL: at a token -/
def mT (A : Nat → Nat → Nat) (b : Nat → Nat) (L t : Nat) : Nat → Nat → Nat := moW A (moE b L t) t (moS b L t) (moV b L t)
def moQ (G : mG) (b : Nat → Nat) (L t : Nat) : mG := mV G 185 35 (moG b L t)
def nS (b : Nat → Nat) (L t : Nat) : Nat := tkS b L (moE b L t)
/-- the tape of the model -/
def moP (A : Nat → Nat → Nat) (b : Nat → Nat) (L : Nat) : Prop := L ≤ 300 ∧ A 185 31 = L ∧ ∀ i, i < L → b i < 256 ∧ A 186 i = sb (b i)
theorem moE_le {b : Nat → Nat} {L t : Nat} (h : t ≤ L) : moE b L t ≤ L := by
  unfold moE
  by_cases c : t < L
  · rw [if_pos c]; exact (lxE_ok c).2
  · rw [if_neg c]; exact h
theorem nS_le {b : Nat → Nat} {L t : Nat} (h : t ≤ L) : nS b L t ≤ L := rE_le _ _ (moE_le h)
theorem m_154t {X : mX} {D : Nat} {P : mPost} {A : Nat → Nat → Nat} {G : mG} {b : Nat → Nat} {L t : Nat} (hD : 2 ≤ D) (h : moP A b L) (ht : t ≤ L) : mCall X D 154 [.ref 185] (mN (mT A b L t), RF, moQ G b L t, mSh) P = P none (mN (mT A b L (nS b L t)), RF, moQ G b L (nS b L t), mSh) := by
  obtain ⟨h1, h2, h3⟩ := h
  subst h2
  unfold mT moQ nS
  rw [m_154 (b := b) hD h1 (moE_le ht) h3, mV_mV]
theorem moS_4 {b : Nat → Nat} {L t : Nat} : moS b L t ≤ 4 := by
  rcases tk_cases (b := b) (L := L) (t := t) with h | h | h | h | h <;> omega
theorem m_158t {X : mX} {D : Nat} {P : mPost} {A : Nat → Nat → Nat} {G : mG} {b : Nat → Nat} {L t j : Nat} (hD : 1 ≤ D) (hj : j < 11) : mCall X D 158 [.ref 185, .long (tL (wdN (wB j) 0 (wLn j)))] (mN (mT A b L t), RF, moQ G b L t, mSh) P = P (some (.int (tN (if kS b L t = kdW j then 1 else 0)))) (mN (mT A b L t), RF, moQ G b L t, mSh) := by
  have s4 := moS_4 (b := b) (L := L) (t := t)
  unfold mT moQ
  rw [m_158 hD (by rw [mo_33]; omega), mo_33, mV_at]
  simp only [tk_word hj]
theorem m_162t {X : mX} {D : Nat} {P : mPost} {A : Nat → Nat → Nat} {G : mG} {b : Nat → Nat} {L t c : Nat} (hD : 1 ≤ D) (h1 : 58 ≤ c) (h2 : c ≤ 62) (hv : moV b L t < 4294967296) : mCall X D 162 [.ref 185, .int (tN c)] (mN (mT A b L t), RF, moQ G b L t, mSh) P = P (some (.int (tN (if kS b L t = c then 1 else 0)))) (mN (mT A b L t), RF, moQ G b L t, mSh) := by
  have s4 := moS_4 (b := b) (L := L) (t := t)
  have e : (moS b L t = 4 ∧ moV b L t = c) = (kS b L t = c) := by
    apply propext
    rcases tk_cases (b := b) (L := L) (t := t) with h | h | h | h | h <;> constructor <;> intro z <;> omega
  unfold mT moQ
  rw [m_162 hD (by rw [mo_33]; omega) (by rw [mo_34]; exact hv) (by omega), mo_33, mo_34]
  simp only [e]

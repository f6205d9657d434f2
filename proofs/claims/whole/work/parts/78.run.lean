set_option maxRecDepth 20000
set_option maxHeartbeats 4000000
/-! A RUN OF TURNS: both sides -/
def rmA (A : Nat → Nat → Nat) (F0 ord : Nat → Nat) : Nat → Nat → Nat → Nat
  | 0 => A
  | k + 1 => mtA (rmA A F0 ord k) 0 (ord k) (rnF (A 192) (A 190 0) (A 194) (A 195) (A 197) F0 ord k)
theorem rmA_o {A : Nat → Nat → Nat} {F0 ord : Nat → Nat} {c : Nat} (h1 : c ≠ 211) (h2 : c ≠ 212) (h3 : c ≠ 213) : ∀ k, rmA A F0 ord k c = A c
  | 0 => rfl
  | k + 1 => (mtA_o h1 h2 h3).trans (rmA_o h1 h2 h3 k)
theorem flA_rm {A : Nat → Nat → Nat} {F0 ord : Nat → Nat} : ∀ k, flA A 0 F0 ord k = rmA (emM A 0) F0 ord k
  | 0 => rfl
  | k + 1 => by
    show mtA (flA A 0 F0 ord k) 0 (ord k) (rnF (A 192) (A 190 0) (A 194) (A 195) (A 197) F0 ord k) = mtA (rmA (emM A 0) F0 ord k) 0 (ord k) (rnF (emM A 0 192) (emM A 0 190 0) (emM A 0 194) (emM A 0 195) (emM A 0 197) F0 ord k)
    rw [flA_rm k, emM_o (by decide) (by decide), emM_o (by decide) (by decide), emM_o (by decide) (by decide), emM_o (by decide) (by decide), emM_o (by decide) (by decide)]
section
variable {A : Nat → Nat → Nat} {F0 ord H0 : Nat → Nat} {T0 : Nat → Nat → Nat} {m : Nat}
theorem rm_N {k : Nat} : ttN (rmA A F0 ord k 192) (rnF (A 192) (A 190 0) (A 194) (A 195) (A 197) F0 ord k) (rmA A F0 ord k 194 (ord k)) (rmA A F0 ord k 195 (ord k)) (rmA A F0 ord k 197 (ord k)) (rmA A F0 ord k 190 0) = rnN (A 192) (A 190 0) (A 194) (A 195) (A 197) F0 ord k := by
  rw [rmA_o (by decide) (by decide) (by decide), rmA_o (by decide) (by decide) (by decide), rmA_o (by decide) (by decide) (by decide), rmA_o (by decide) (by decide) (by decide), rmA_o (by decide) (by decide) (by decide)]
  rfl
def rnPl (A : Nat → Nat → Nat) (F0 ord : Nat → Nat) (k : Nat) : Nat → Nat := ttP (A 192) (rnF (A 192) (A 190 0) (A 194) (A 195) (A 197) F0 ord k) (A 194 (ord k)) (A 195 (ord k)) (A 190 0)
theorem rm_211 {k : Nat} : rmA A F0 ord (k + 1) 211 = oSet (rmA A F0 ord k 211) (posN 0 (rnPl A F0 ord k)) (ord k) (rnN (A 192) (A 190 0) (A 194) (A 195) (A 197) F0 ord k) := by
  show mtA (rmA A F0 ord k) 0 (ord k) _ 211 = _
  rw [mtA_211, rm_N, rmA_o (c := 192) (by decide) (by decide) (by decide), rmA_o (c := 194) (by decide) (by decide) (by decide), rmA_o (c := 195) (by decide) (by decide) (by decide), rmA_o (c := 190) (by decide) (by decide) (by decide)]
  rfl
theorem rm_212 {k : Nat} : rmA A F0 ord (k + 1) 212 = up (rmA A F0 ord k 212) (ord k) (rnN (A 192) (A 190 0) (A 194) (A 195) (A 197) F0 ord k) := by
  show mtA (rmA A F0 ord k) 0 (ord k) _ 212 = _
  rw [mtA_212, rm_N, show 12 * 0 + ord k = ord k by omega]
theorem rm_213 {k i : Nat} : rmA A F0 ord (k + 1) 213 i = if 6 * ord k ≤ i ∧ i < 6 * ord k + rnN (A 192) (A 190 0) (A 194) (A 195) (A 197) F0 ord k then rnPl A F0 ord k (i - 6 * ord k) else rmA A F0 ord k 213 i := by
  show mtA (rmA A F0 ord k) 0 (ord k) _ 213 i = _
  rw [mtA_213, rm_N, rmA_o (by decide) (by decide) (by decide), rmA_o (by decide) (by decide) (by decide), rmA_o (by decide) (by decide) (by decide), rmA_o (by decide) (by decide) (by decide), show 12 * 0 + ord k = ord k by omega]
  rfl
def runOK (A : Nat → Nat → Nat) (F0 ord H0 : Nat → Nat) (T0 : Nat → Nat → Nat) (k : Nat) : Prop :=
  HI (A 190 0) (A 191) (rnF (A 192) (A 190 0) (A 194) (A 195) (A 197) F0 ord k) (rmA A F0 ord k 212) (fun a i => rmA A F0 ord k 213 (6 * a + i)) (rmA A F0 ord k 211) ∧
  (∀ i, i < 72 → rmA A F0 ord k 211 i = 4294967295 ∨ rmA A F0 ord k 211 i < 12) ∧
  (∀ a, a < 12 → rnH (A 192) (A 190 0) (A 194) (A 195) (A 197) F0 ord H0 k a = rmA A F0 ord k 212 a) ∧
  (∀ a i, a < 12 → i < rmA A F0 ord k 212 a → rnK (A 192) (A 190 0) (A 194) (A 195) (A 197) F0 ord T0 k a i = rmA A F0 ord k 213 (6 * a + i)) ∧
  (∀ a, (∀ j, j < k → ord j ≠ a) → rmA A F0 ord k 212 a = A 212 a) ∧
  (∀ j, j < k → rmA A F0 ord k 212 (ord j) = rnN (A 192) (A 190 0) (A 194) (A 195) (A 197) F0 ord j)
theorem run_ok (ok : okM A) (ho : ∀ k, k < m → ord k < A 193 0) (hi : ∀ i k, i < k → k < m → ord i ≠ ord k) (h0 : ∀ k, k < m → A 212 (ord k) = 0) (hHI : HI (A 190 0) (A 191) F0 (A 212) (fun a i => A 213 (6 * a + i)) (A 211)) (hO : ∀ i, i < 72 → A 211 i = 4294967295 ∨ A 211 i < 12) (hH : ∀ a, a < 12 → H0 a = A 212 a) (hT : ∀ a i, a < 12 → i < A 212 a → T0 a i = A 213 (6 * a + i)) : ∀ k, k ≤ m → runOK A F0 ord H0 T0 k := by
  obtain ⟨k1, k2, k3, k4, k5⟩ := ok
  have h12 : ∀ r, r < A 190 0 → A 191 r ≤ 12 := fun r hr => (k2 r hr).2
  intro k
  induction k with
  | zero =>
    intro _
    exact ⟨hHI, hO, hH, hT, fun _ _ => rfl, fun j hj => absurd hj (by omega)⟩
  | succ k ih =>
    intro hk
    obtain ⟨i1, i2, i3, i4, i5, i6⟩ := ih (by omega)
    have ha := ho k (by omega)
    obtain ⟨s1, s2, s3, s4⟩ := k5 _ ha
    have ha12 : ord k < 12 := by omega
    have z0 : rmA A F0 ord k 212 (ord k) = 0 := by rw [i5 _ (fun j hj => hi j k hj (by omega))]; exact h0 k (by omega)
    have hN : rnN (A 192) (A 190 0) (A 194) (A 195) (A 197) F0 ord k ≤ 6 := by
      rcases ttN_le (pr := A 192) (F := rnF (A 192) (A 190 0) (A 194) (A 195) (A 197) F0 ord k) (sz := A 194 (ord k)) (most := A 195 (ord k)) (pt := A 197 (ord k)) (nr := A 190 0) with q | q
      · unfold rnN; omega
      · unfold rnN; omega
    have t := HI_turn (pr := A 192) (most := A 195 (ord k)) (pt := A 197 (ord k)) (T2 := fun b i => if b = ord k then rnPl A F0 ord k i else rmA A F0 ord k 213 (6 * b + i)) k1 h12 ha12 z0 s1 s2 (fun b hb => funext fun i => if_neg hb) (fun i _ => if_pos rfl) i1
    have l6 := i1.2.2.2.2.2
    refine ⟨HI_cg k1 h12 (fun _ _ => rfl) (fun _ _ => rfl) (fun a ha => ?_) (fun a i ha hi' => ?_) (fun i _ => ?_) t, fun i hi' => ?_, fun a ha => ?_, fun a i ha hi' => ?_, fun a hj => ?_, fun j hj => ?_⟩
    · rw [rm_212]; rfl
    · show rmA A F0 ord (k + 1) 213 (6 * a + i) = (if a = ord k then rnPl A F0 ord k i else rmA A F0 ord k 213 (6 * a + i))
      have hi' : i < up (rmA A F0 ord k 212) (ord k) (rnN (A 192) (A 190 0) (A 194) (A 195) (A 197) F0 ord k) a := hi'
      rw [rm_213]
      by_cases e : a = ord k
      · subst e
        rw [up_eq] at hi'
        rw [if_pos rfl, if_pos (by omega), Nat.add_sub_cancel_left]
      · rw [up_ne e] at hi'
        have := l6 a ha
        rw [if_neg e, if_neg (by omega)]
    · rw [rm_211]; rfl
    · rw [rm_211]
      by_cases c : ∃ j, j < rnN (A 192) (A 190 0) (A 194) (A 195) (A 197) F0 ord k ∧ i = posN 0 (rnPl A F0 ord k) j
      · obtain ⟨j, j1, j2⟩ := c
        rw [j2, oSet_hit _ j j1]
        exact .inr ha12
      · rw [oSet_miss _ (fun j hj z => c ⟨j, hj, z⟩)]
        exact i2 i hi'
    · rw [rm_212]
      show up (rnH (A 192) (A 190 0) (A 194) (A 195) (A 197) F0 ord H0 k) (ord k) _ a = _
      unfold up
      split
      · rfl
      · exact i3 a ha
    · rw [rm_213]
      rw [rm_212] at hi'
      show up (rnK (A 192) (A 190 0) (A 194) (A 195) (A 197) F0 ord T0 k) (ord k) (rnT (A 192) (A 190 0) (A 194) (A 195) (A 197) F0 ord k (rnK (A 192) (A 190 0) (A 194) (A 195) (A 197) F0 ord T0 k (ord k))) a i = _
      by_cases e : a = ord k
      · subst e
        rw [up_eq] at hi' ⊢
        rw [if_pos (by omega), Nat.add_sub_cancel_left]
        exact if_pos hi'
      · rw [up_ne e] at hi' ⊢
        have := l6 a ha
        rw [if_neg (by omega)]
        exact i4 a i ha hi'
    · rw [rm_212, up_ne (fun z => hj k (by omega) z.symm)]
      exact i5 a (fun j hj' => hj j (by omega))
    · rw [rm_212]
      by_cases e : j = k
      · rw [e, up_eq]
      · rw [up_ne (hi j k (by omega) (by omega))]
        exact i6 j (by omega)
theorem psm_cg {pr pr2 T T2 : Nat → Nat} : ∀ n, (∀ i, i < n → pr (T i / 100) = pr2 (T2 i / 100)) → psm pr T n = psm pr2 T2 n
  | 0, _ => rfl
  | n + 1, h => by
    unfold psm
    rw [psm_cg n (fun i hi => h i (by omega)), h n (by omega)]
/-- who stands in the line after a run -/
theorem rnL_ok {pr sz mo pt L : Nat → Nat} {nr : Nat} (hi : ∀ i k, i < k → k < m → ord i ≠ ord k) : ∀ k, k ≤ m → (∀ i, i < rnQ pr nr sz mo pt F0 ord k → ∃ j, j < k ∧ rnL pr nr sz mo pt F0 ord L k i = ord j ∧ rnN pr nr sz mo pt F0 ord j = 0) ∧ (∀ i i2, i < i2 → i2 < rnQ pr nr sz mo pt F0 ord k → rnL pr nr sz mo pt F0 ord L k i ≠ rnL pr nr sz mo pt F0 ord L k i2) := by
  intro k
  induction k with
  | zero => intro _; exact ⟨fun i h => absurd h (by unfold rnQ; omega), fun i i2 _ h => absurd h (by unfold rnQ; omega)⟩
  | succ k ih =>
    intro hk
    obtain ⟨a1, a2⟩ := ih (by omega)
    by_cases c : 0 < rnN pr nr sz mo pt F0 ord k
    · have e1 : rnQ pr nr sz mo pt F0 ord (k + 1) = rnQ pr nr sz mo pt F0 ord k := by
        show rnQ pr nr sz mo pt F0 ord k + _ = _
        rw [if_pos c]; rfl
      have e2 : rnL pr nr sz mo pt F0 ord L (k + 1) = rnL pr nr sz mo pt F0 ord L k := if_pos c
      rw [e1, e2]
      exact ⟨fun i h => by obtain ⟨j, j1, j2⟩ := a1 i h; exact ⟨j, by omega, j2⟩, a2⟩
    · have e1 : rnQ pr nr sz mo pt F0 ord (k + 1) = rnQ pr nr sz mo pt F0 ord k + 1 := by
        show rnQ pr nr sz mo pt F0 ord k + _ = _
        rw [if_neg c]
      have e2 : rnL pr nr sz mo pt F0 ord L (k + 1) = up (rnL pr nr sz mo pt F0 ord L k) (rnQ pr nr sz mo pt F0 ord k) (ord k) := if_neg c
      rw [e1, e2]
      refine ⟨fun i h => ?_, fun i i2 h h2 => ?_⟩
      · by_cases e : i = rnQ pr nr sz mo pt F0 ord k
        · rw [e, up_eq]
          exact ⟨k, by omega, rfl, by omega⟩
        · rw [up_ne e]
          obtain ⟨j, j1, j2⟩ := a1 i (by omega)
          exact ⟨j, by omega, j2⟩
      · rw [up_ne (by omega)]
        by_cases e : i2 = rnQ pr nr sz mo pt F0 ord k
        · rw [e, up_eq]
          obtain ⟨j, j1, j2, _⟩ := a1 i (by omega)
          rw [j2]
          exact hi j k j1 (by omega)
        · rw [up_ne e]
          exact a2 i i2 h (by omega)
/-- the line does not depend on what stood in its cells -/
theorem rnL_in {pr sz mo pt L L2 : Nat → Nat} {nr : Nat} : ∀ k i, i < rnQ pr nr sz mo pt F0 ord k → rnL pr nr sz mo pt F0 ord L k i = rnL pr nr sz mo pt F0 ord L2 k i := by
  intro k
  induction k with
  | zero => intro i h; exact absurd h (by unfold rnQ; omega)
  | succ k ih =>
    intro i h
    by_cases c : 0 < rnN pr nr sz mo pt F0 ord k
    · have e1 : rnQ pr nr sz mo pt F0 ord (k + 1) = rnQ pr nr sz mo pt F0 ord k := by
        show rnQ pr nr sz mo pt F0 ord k + _ = _
        rw [if_pos c]; rfl
      rw [e1] at h
      show (if 0 < rnN pr nr sz mo pt F0 ord k then rnL pr nr sz mo pt F0 ord L k else _) i = (if 0 < rnN pr nr sz mo pt F0 ord k then rnL pr nr sz mo pt F0 ord L2 k else _) i
      rw [if_pos c, if_pos c]
      exact ih i h
    · have e1 : rnQ pr nr sz mo pt F0 ord (k + 1) = rnQ pr nr sz mo pt F0 ord k + 1 := by
        show rnQ pr nr sz mo pt F0 ord k + _ = _
        rw [if_neg c]
      rw [e1] at h
      show (if 0 < rnN pr nr sz mo pt F0 ord k then _ else up (rnL pr nr sz mo pt F0 ord L k) (rnQ pr nr sz mo pt F0 ord k) (ord k)) i = (if 0 < rnN pr nr sz mo pt F0 ord k then _ else up (rnL pr nr sz mo pt F0 ord L2 k) (rnQ pr nr sz mo pt F0 ord k) (ord k)) i
      rw [if_neg c, if_neg c]
      unfold up
      split
      · rfl
      · exact ih i (by omega)
theorem rnP_0 {pr sz mo pt Q : Nat → Nat} {nr a : Nat} : ∀ k, (∀ j, j < k → ord j ≠ a) → rnP pr nr sz mo pt F0 ord T0 Q k a = Q a
  | 0, _ => rfl
  | k + 1, h => by
    show up (rnP pr nr sz mo pt F0 ord T0 Q k) (ord k) _ a = Q a
    rw [up_ne (fun z => h k (by omega) z.symm)]
    exact rnP_0 k (fun j hj => h j (by omega))
theorem rnT_at {pr sz mo pt t : Nat → Nat} {nr k i : Nat} (h : i < rnN pr nr sz mo pt F0 ord k) : rnT pr nr sz mo pt F0 ord k t i = ttP pr (rnF pr nr sz mo pt F0 ord k) (sz (ord k)) (mo (ord k)) nr i := if_pos h
theorem rnK_0 {pr sz mo pt : Nat → Nat} {nr j : Nat} (hi : ∀ i k, i < k → k < m → ord i ≠ ord k) : ∀ k, j < k → k ≤ m → rnK pr nr sz mo pt F0 ord T0 k (ord j) = rnT pr nr sz mo pt F0 ord j (rnK pr nr sz mo pt F0 ord T0 j (ord j))
  | 0, h, _ => absurd h (by omega)
  | k + 1, h, hk => by
    show up (rnK pr nr sz mo pt F0 ord T0 k) (ord k) _ (ord j) = _
    by_cases e : j = k
    · subst e; rw [up_eq]
    · rw [up_ne (hi j k (by omega) (by omega))]
      exact rnK_0 hi k (by omega) (by omega)
end

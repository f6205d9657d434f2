set_option maxRecDepth 20000
set_option maxHeartbeats 4000000
/-! THE TESTS of a line: both loops at once -/
theorem moP_cg {B B' : Nat → Nat → Nat} {b : Nat → Nat} {L : Nat} (h1 : B' 185 31 = B 185 31) (h2 : B' 186 = B 186) (h : moP B b L) : moP B' b L := by
  unfold moP
  rw [h1, h2]
  exact h
theorem mdO_cg {B B' : Nat → Nat → Nat} {b : Nat → Nat} {L fk fp nl : Nat} (h1 : B' 185 = B 185) (h2 : B' 186 = B 186) (h : mdO B b L fk fp nl) : mdO B' b L fk fp nl := by
  unfold mdO moP
  rw [h1, h2]
  exact h
theorem tB_1 {K : Nat → Nat} {n : Nat} : tB K n ≤ 1 := by
  unfold tB
  by_cases c : K n = 12
  · rw [if_pos c]; omega
  · rw [if_neg c]; omega
theorem sim_L {X : mX} {D D2 : Nat} {cap cap2 : Nat × Nat} {G : mG} {b : Nat → Nat} {L N nl : Nat} (hD : 4 ≤ D) (hD2 : 4 ≤ D2) : ∀ m n k (A : Nat → Nat → Nat) fk fp, N ≤ n + m → n < N → k ≤ n → TK b L N (A 182) (A 183) (A 184) → A 181 0 = N + 1 → A 173 0 = min nl 12 → (nl < 12 → A 175 nl = min k 4) → fk ≤ 3 → (fk = 0 → fp = 4294967295) → (4 < k → fk ≠ 0) →
    (∃ A' w, w ≤ N ∧ frA A A' ∧ (∀ P, mW (mCall X D) X cap 81 P 4 [.ref 172, .int (tN 1), .int (tN k)] [] (mN (rdW A fk fp n), RF, G, mSh) = P (some (.int (tN (0)))) (mN (rdW A' 1 (A 184 w) w), RF, G, mSh)) ∧ ∀ B, mdO B b L fk fp nl → drD A B fk nl → (nl < 12 → drT A B nl) → ∃ B', frB B B' ∧ B' 185 36 = A 184 w ∧ ∀ P, mW (mCall X D2) X cap2 156 P 58 [.ref 185, .int (tN (min nl 12)), .int (tN 1), .int (tN k)] [] (mN (mT (B) b L (A 184 n)), RF, moQ G b L (A 184 n), mSh) = P (some (.int (tN (0)))) (mN (mT (B') b L (A 184 w)), RF, moQ G b L (A 184 w), mSh))
    ∨ (∃ A' fk' fp' n' k', n < n' ∧ n' ≤ N ∧ k' ≤ 300 ∧ frA A A' ∧ A' 173 0 = A 173 0 ∧ fk' ≤ 3 ∧ (fk' = 0 → fp' = 4294967295) ∧ (fk ≠ 0 → fk' ≠ 0) ∧ (∀ P, mW (mCall X D) X cap 81 P 4 [.ref 172, .int (tN 1), .int (tN k)] [] (mN (rdW A fk fp n), RF, G, mSh) = mW (mCall X D) X cap 81 P 4 [.ref 172, .int (tN 0), .int (tN k')] [] (mN (rdW A' fk' fp' n'), RF, G, mSh)) ∧ ∀ B, mdO B b L fk fp nl → drD A B fk nl → (nl < 12 → drT A B nl) → ∃ B', frB B B' ∧ mdO B' b L fk' fp' nl ∧ drD A' B' fk' nl ∧ (nl < 12 → drT A' B' nl) ∧ ∀ P, mW (mCall X D2) X cap2 156 P 58 [.ref 185, .int (tN (min nl 12)), .int (tN 1), .int (tN k)] [] (mN (mT (B) b L (A 184 n)), RF, moQ G b L (A 184 n), mSh) = mW (mCall X D2) X cap2 156 P 58 [.ref 185, .int (tN (min nl 12)), .int (tN 0), .int (tN k')] [] (mN (mT (B') b L (A 184 n')), RF, moQ G b L (A 184 n'), mSh)) := by
  intro m
  induction m with
  | zero =>
    intro n k A fk fp hm hn
    omega
  | succ m ih =>
    intro n k A fk fp hm hn hk hT h181 h173 h175 hf hfp h4
    have hN := hT.1
    have cs := fun P => cs_L (X := X) (D := D) (cap := cap) (P := P) (G := G) (fp := fp) hD hn hT h181 h173 h175 hf hk h4
    have ms := fun P B (hP : moP B b L) (hB : B 185 37 ≤ 3) => ms_L (X := X) (D := D2) (cap := cap2) (P := P) (G := G) (B := B) (k := k) (l := min nl 12) hD2 hn hT hP hB (by omega) (by omega)
    obtain ⟨z1, z2⟩ := tzN_in (K := A 182) (n := n + 1) hn
    by_cases ok : tOk (A 182) (stI N) (n + 1)
    · obtain ⟨a1, a2⟩ := tA_in (K := A 182) (n := n + 1) hn
      have b2 := stI_le a2
      have b3 := stI_le b2
      obtain ⟨⟨o1, o2⟩, o3, o4⟩ := ok
      have ok : tOk (A 182) (stI N) (n + 1) := ⟨⟨o1, o2⟩, o3, o4⟩
      have s62 := tk_k hT b2
      have v9 := tk_v hT b3 o4
      -- the drafts after the test
      have dr : ∀ B, mdO B b L fk fp nl → drD A B fk nl → (nl < 12 → drT A B nl) → mdO (tzM (bFl (decide (k = 4)) 3 (A 184 (n + 1)) B) (A 182) (A 183) N (min nl 12) k (n + 1)) b L (kF (decide (k = 4)) 3 fk) (pF (decide (k = 4)) (A 184 (n + 1)) fk fp) nl ∧ drD (tzA A N (n + 1)) (tzM (bFl (decide (k = 4)) 3 (A 184 (n + 1)) B) (A 182) (A 183) N (min nl 12) k (n + 1)) (kF (decide (k = 4)) 3 fk) nl ∧ (nl < 12 → drT (tzA A N (n + 1)) (tzM (bFl (decide (k = 4)) 3 (A 184 (n + 1)) B) (A 182) (A 183) N (min nl 12) k (n + 1)) nl) := by
        intro B g1 g2 g3
        obtain ⟨d1, d2, d3⟩ := dr_t (A := A) (B := bFl (decide (k = 4)) 3 (A 184 (n + 1)) B) (l := min nl 12) (k := k) (g := tB (A 182) (n + 1)) (f := A 182 (tA (A 182) (stI N) (n + 1)) - 20) (s := A 182 (stI N (tA (A 182) (stI N) (n + 1)))) (v := A 183 (stI N (stI N (tA (A 182) (stI N) (n + 1))))) (fk := kF (decide (k = 4)) 3 fk) (nl := nl) rfl h173 h175 tB_1 (by omega) (by omega) v9 (drD_cg (fun c c1 c2 => bFl_o (by omega)) (kF_0 (by decide)) g2) (fun y => drT_cg (fun _ _ _ => rfl) (fun c c1 c2 => bFl_o (by omega)) (g3 y))
        exact ⟨mdO_cg (mdT_o (by omega)) (mdT_o (by omega)) (mdO_F (by decide) g1), d1, d2⟩
      have u5 : nl < 12 → tzA A N (n + 1) 175 nl = min (k + 1) 4 := fun y => by
        have k1 := h175 y
        unfold tzA adT
        have e : A 173 0 = nl := by omega
        rw [e]
        by_cases c4 : k < 4
        · rw [if_pos ⟨y, by omega⟩, aU_eq]
          omega
        · rw [if_neg (fun q => by omega), k1]
          omega
      have frB1 : ∀ B, frB B (tzM (bFl (decide (k = 4)) 3 (A 184 (n + 1)) B) (A 182) (A 183) N (min nl 12) k (n + 1)) := fun B c c1 c2 => by
        unfold tzM
        rw [mdT_o (by omega), bFl_o c1]
      have e182 : tzA A N (n + 1) 182 = A 182 := adT_o (by omega)
      have e183 : tzA A N (n + 1) 183 = A 183 := adT_o (by omega)
      have e184 : tzA A N (n + 1) 184 = A 184 := adT_o (by omega)
      have e181 : tzA A N (n + 1) 181 = A 181 := adT_o (by omega)
      have e173 : tzA A N (n + 1) 173 = A 173 := adT_o (by omega)
      have fr1 : frA A (tzA A N (n + 1)) := fun c hc => adT_o (by omega)
      have k3 : kF (decide (k = 4)) 3 fk ≤ 3 := kF_3 (by decide) hf
      have p0 := pF_0 (w := decide (k = 4)) (f := 3) (p := A 184 (n + 1)) (by decide) hfp
      have kn : fk ≠ 0 → kF (decide (k = 4)) 3 fk ≠ 0 := fun y q => y (kF_0 (by decide) q)
      have h4' : 4 < k + 1 → kF (decide (k = 4)) 3 fk ≠ 0 := fun y => by
        by_cases c4 : k = 4
        · unfold kF
          rw [if_pos (decide_eq_true c4)]
          exact rm_0 (by decide)
        · exact kn (h4 (by omega))
      have cs' := fun P => (cs P).1 ok
      have ms' := fun P B hP hB => (ms P B hP hB).1 ok
      clear cs ms ok o1 o2 o3 o4 a1 a2 b2 b3 s62 v9
      generalize tzA A N (n + 1) = A1 at *
      generalize tzN (A 182) N (n + 1) = n1 at *
      generalize kF (decide (k = 4)) 3 fk = fk1 at *
      generalize pF (decide (k = 4)) (A 184 (n + 1)) fk fp = fp1 at *
      by_cases c11 : A 182 n1 = 11
      · have hn1 : n1 < N := by
          rcases Nat.lt_or_ge n1 N with y | y
          · exact y
          · have e : n1 = N := by omega
            rw [e, hT.2.2.2.1] at c11
            omega
        rw [if_pos c11] at cs' ms'
        have I := ih n1 (k + 1) A1 fk1 fp1 (by omega) hn1 (by omega) (by rw [e182, e183, e184]; exact hT) (by rw [e181]; exact h181) (by rw [e173]; exact h173) u5 k3 p0 h4'
        rw [e184, e173] at I
        rcases I with ⟨A', w, i1, i2, i3, i4⟩ | ⟨A', fk', fp', n', k', i1, i2, i3, i4, i5, i6, i7, i8, i9, i10⟩
        · refine Or.inl ⟨A', w, i1, fun c hc => (i2 c hc).trans (fr1 c hc), fun P => (cs' P).trans (i3 P), fun B g1 g2 g3 => ?_⟩
          obtain ⟨d1, d2, d3⟩ := dr B g1 g2 g3
          obtain ⟨B', j1, j2, j3⟩ := i4 _ d1 d2 d3
          exact ⟨B', fun c c1 c2 => (j1 c c1 c2).trans (frB1 B c c1 c2), j2, fun P => (ms' P B g1.1 (by rw [g1.2.1]; exact hf)).trans (j3 P)⟩
        · refine Or.inr ⟨A', fk', fp', n', k', by omega, i2, i3, fun c hc => (i4 c hc).trans (fr1 c hc), i5, i6, i7, fun y => i8 (kn y), fun P => (cs' P).trans (i9 P), fun B g1 g2 g3 => ?_⟩
          obtain ⟨d1, d2, d3⟩ := dr B g1 g2 g3
          obtain ⟨B', j1, j2, j3, j4, j5⟩ := i10 _ d1 d2 d3
          exact ⟨B', fun c c1 c2 => (j1 c c1 c2).trans (frB1 B c c1 c2), j2, j3, j4, fun P => (ms' P B g1.1 (by rw [g1.2.1]; exact hf)).trans (j5 P)⟩
      · rw [if_neg c11] at cs' ms'
        refine Or.inr ⟨A1, fk1, fp1, n1, k + 1, by omega, z2, by omega, fr1, by rw [e173], k3, p0, kn, cs', fun B g1 g2 g3 => ?_⟩
        obtain ⟨d1, d2, d3⟩ := dr B g1 g2 g3
        exact ⟨_, frB1 B, d1, d2, d3, fun P => ms' P B g1.1 (by rw [g1.2.1]; exact hf)⟩
    · refine Or.inl ⟨A, tR (A 182) (stI N) (n + 1), tR_in hn, fun _ _ => rfl, fun P => (cs P).2 ok, fun B g1 g2 g3 => ⟨aU (bFl (decide (k = 4)) 3 (A 184 (n + 1)) B) 185 36 (A 184 (tR (A 182) (stI N) (n + 1))), fun c c1 c2 => ?_, aU_eq, fun P => (ms P B g1.1 (by rw [g1.2.1]; exact hf)).2 ok⟩⟩
      rw [aU_nf c1, bFl_o c1]

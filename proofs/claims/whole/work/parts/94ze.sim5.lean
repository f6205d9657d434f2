set_option maxRecDepth 20000
set_option maxHeartbeats 4000000
/-! ONE LINE on both sides -/
section
variable {A B B1 : Nat → Nat → Nat} {b : Nat → Nat} {L N n nl fk fp l : Nat} {K V S : Nat → Nat}
theorem prK_0 : prK K V N n fk = 0 → fk = 0 := by
  unfold prK
  by_cases z : K n = 13 ∧ 100 < V (stI N n)
  · rw [if_pos z]; exact fun q => absurd q (rm_0 (by decide))
  · rw [if_neg z]; exact id
theorem prK_3 (h : fk ≤ 3) : prK K V N n fk ≤ 3 := by
  unfold prK
  by_cases z : K n = 13 ∧ 100 < V (stI N n)
  · rw [if_pos z]; exact rm_3 (by decide) h
  · rw [if_neg z]; exact h
theorem prP_0 (h : fk = 0 → fp = 4294967295) : prK K V N n fk = 0 → prP K V S N n fk fp = 4294967295 := by
  unfold prK prP
  by_cases z : K n = 13 ∧ 100 < V (stI N n)
  · rw [if_pos z]; exact fun q => absurd q (rm_0 (by decide))
  · rw [if_neg z, if_neg z]; exact h
theorem prP_e {q : Nat} (h : fk ≠ 0 → q = fp) : prK K V N n fk ≠ 0 → prP K V S N n fk q = prP K V S N n fk fp := by
  unfold prK prP
  by_cases z : K n = 13 ∧ 100 < V (stI N n)
  · rw [if_pos z, if_pos z, if_pos z]; exact fun _ => rm_p h
  · rw [if_neg z, if_neg z, if_neg z]; exact h
theorem prV_9 (hg : prG K N n) (hk : prK K V N n fk = 0) : prV K V N n ≤ 100 := by
  unfold prV
  by_cases c0 : K n = 14
  · rw [if_pos c0]; omega
  · rw [if_neg c0]
    by_cases c1 : K n = 15
    · rw [if_pos c1]; omega
    · rw [if_neg c1]
      rcases hg with y | y | y
      · exact absurd y c0
      · exact absurd y c1
      · rcases Nat.lt_or_ge 100 (V (stI N n)) with z | z
        · unfold prK at hk
          rw [if_pos ⟨y.1, z⟩] at hk
          exact absurd hk (rm_0 (by decide))
        · exact z
theorem prE_in (hn : n ≤ N) : n ≤ prE K N n ∧ prE K N n ≤ N := by
  have a1 := stI_ge (N := N) (n := n)
  have a2 := stI_ge (N := N) (n := stI N n)
  have b1 := stI_le hn
  have b2 := stI_le b1
  unfold prE
  by_cases z : K n = 13
  · rw [if_pos z]; omega
  · rw [if_neg z]; omega
theorem prW_in (hn : n ≤ N) : prW K N n ≤ N := by
  have b1 := stI_le hn
  have b2 := stI_le b1
  unfold prW
  by_cases c0 : K n = 14 ∨ K n = 15
  · rw [if_pos c0]; exact b1
  · rw [if_neg c0]
    by_cases c1 : K n = 13
    · rw [if_pos c1]
      by_cases c2 : K (stI N n) = 2
      · rw [if_pos c2]; exact b2
      · rw [if_neg c2]; exact b1
    · rw [if_neg c1]; exact hn
theorem fnA_o {v c : Nat} (h : c < 173 ∨ 174 < c) : fnA A v c = A c := by
  unfold fnA
  by_cases z : A 173 0 < 12
  · rw [if_pos z, aU_nf (by omega), aU_nf (by omega)]
  · rw [if_neg z]
theorem bgA_o {c : Nat} (h : c ≠ 175) : bgA A c = A c := by
  unfold bgA
  by_cases z : A 173 0 < 12
  · rw [if_pos z, aU_nf h]
  · rw [if_neg z]
/-- the drafts at a line's beginning -/
theorem dr_b (h173 : A 173 0 = min nl 12) (hD : drD A B fk nl) : drD (bgA A) (aU B 215 (min nl 12) 0) fk nl ∧ (nl < 12 → drT (bgA A) (aU B 215 (min nl 12) 0) nl) ∧ (nl < 12 → bgA A 175 nl = 0) := by
  have a175 : ∀ j, j < 12 → bgA A 175 j = if j = nl then 0 else A 175 j := fun j hj => by
    unfold bgA
    by_cases z : A 173 0 < 12
    · rw [if_pos z, aU_if, show A 173 0 = nl by omega]
    · rw [if_neg z, if_neg (by omega)]
  have b215 : ∀ j, j < 12 → aU B 215 (min nl 12) 0 215 j = if j = nl then 0 else B 215 j := fun j hj => by
    rw [aU_if]
    by_cases z : j = nl
    · rw [if_pos z, if_pos (by omega)]
    · rw [if_neg z, if_neg (by omega)]
  have sl : ∀ j, drQ A B j → drQ (bgA A) (aU B 215 (min nl 12) 0) j := fun j h => drQ_cg (by rw [bgA_o (by decide)]) (by rw [bgA_o (by decide)]) (by rw [bgA_o (by decide)]) (by rw [bgA_o (by decide)]) (by rw [aU_ne (by decide)]) (by rw [aU_ne (by decide)]) (by rw [aU_ne (by decide)]) h
  refine ⟨fun l h1 h2 => ?_, fun y => ⟨?_, ?_, fun i hi => ?_⟩, fun y => ?_⟩
  · obtain ⟨⟨d1, d2, d3⟩, d4, d5⟩ := hD l h1 h2
    refine ⟨⟨?_, ?_, fun i hi => ?_⟩, ?_, ?_⟩
    · rw [a175 l h2, b215 l h2, if_neg (by omega), if_neg (by omega)]; exact d1
    · rw [b215 l h2, if_neg (by omega)]; exact d2
    · rw [b215 l h2, if_neg (by omega)] at hi
      exact sl _ (d3 i hi)
    · rw [bgA_o (by decide), aU_ne (by decide)]; exact d4
    · rw [aU_ne (by decide)]; exact d5
  · rw [a175 nl y, b215 nl y, if_pos rfl, if_pos rfl]
  · rw [b215 nl y, if_pos rfl]; omega
  · rw [b215 nl y, if_pos rfl] at hi
    exact absurd hi (by omega)
  · rw [a175 nl y, if_pos rfl]
/-- the drafts at a line's end -/
theorem dr_e {k' p' v : Nat} (h173 : A 173 0 = min nl 12) (hD : drD A B fk nl) (hU : nl < 12 → drT A B nl) (hO : pmO B B1 b L (min nl 12) k' p') (hv : B1 219 (min nl 12) = v) (hk : k' = 0 → fk = 0 ∧ v ≤ 100) : drD (fnA A v) (aU B1 185 39 (nl + 1)) k' (nl + 1) := by
  obtain ⟨h1, h2, h3, h4, h5, h6, h7⟩ := hO
  have a174 : ∀ j, j < 12 → fnA A v 174 j = if j = nl then v else A 174 j := fun j hj => by
    unfold fnA
    by_cases z : A 173 0 < 12
    · rw [if_pos z, aU_ne (by decide), aU_if, show A 173 0 = nl by omega]
    · rw [if_neg z, if_neg (by omega)]
  have tt : ∀ l, drT A B l → drT (fnA A v) (aU B1 185 39 (nl + 1)) l := fun l h => drT_cg (fun c c1 c2 => fnA_o (by omega)) (fun c c1 c2 => (aU_nf (by omega)).trans (h6 c c1 c2)) h
  intro l l1 l2
  by_cases z : l = nl
  · subst z
    refine ⟨tt _ (hU l2), ?_, fun y => ?_⟩
    · rw [a174 l l2, if_pos rfl, aU_ne (by decide), ← hv, show min l 12 = l by omega]
    · rw [aU_ne (by decide)]
      rw [show min l 12 = l by omega] at hv
      rw [hv]
      exact (hk y).2
  · obtain ⟨d1, d2, d3⟩ := hD l (by omega) l2
    refine ⟨tt _ d1, ?_, fun y => ?_⟩
    · rw [a174 l l2, if_neg z, aU_ne (by decide), h7 l (by omega)]; exact d2
    · rw [aU_ne (by decide), h7 l (by omega)]; exact d3 (hk y).1
end
theorem sim_E {X : mX} {D D2 : Nat} {cap cap2 : Nat × Nat} {G : mG} {A : Nat → Nat → Nat} {b : Nat → Nat} {L N n nl fk fp : Nat} {u u2 u3 : Value} (hD : 3 ≤ D) (hD2 : 4 ≤ D2) (gu : mOk u = true) (g2 : mOk u2 = true) (g3 : mOk u3 = true) (hn : n ≤ N) (hT : TK b L N (A 182) (A 183) (A 184)) (h181 : A 181 0 = N + 1) (h173 : A 173 0 = min nl 12) (hf : fk ≤ 3) (hfp : fk = 0 → fp = 4294967295) (h12 : 12 ≤ nl → fk ≠ 0) (hnl : nl ≤ 300) :
    (∃ w, w ≤ N ∧ (∀ P, mW (mCall X D) X cap 78 P 36 [.ref 172, .int (tN nl), u] [] (mN (rdW A fk fp n), RF, G, mSh) = P (some (.int (tN (0)))) (mN (rdW A 1 (A 184 w) w), RF, G, mSh)) ∧ ∀ B, mdO B b L fk fp nl → drD A B fk nl → (nl < 12 → drT A B nl) → ∃ B', frB B B' ∧ B' 185 36 = A 184 w ∧ ∀ P, mW (mCall X D2) X cap2 156 P 102 [.ref 185, .int (tN (min nl 12)), u2, u3] [] (mN (mT (B) b L (A 184 n)), RF, moQ G b L (A 184 n), mSh) = P (some (.int (tN (0)))) (mN (mT (B') b L (A 184 w)), RF, moQ G b L (A 184 w), mSh))
    ∨ (∃ A' fk' fp' n', n < n' ∧ n' ≤ N ∧ frA A A' ∧ A' 173 0 = min (nl + 1) 12 ∧ fk' ≤ 3 ∧ (fk' = 0 → fp' = 4294967295) ∧ (12 < nl + 1 → fk' ≠ 0) ∧ (∀ P, mW (mCall X D) X cap 78 P 36 [.ref 172, .int (tN nl), u] [] (mN (rdW A fk fp n), RF, G, mSh) = P (some (.int (tN (1)))) (mN (rdW A' fk' fp' n'), RF, G, mSh)) ∧ ∀ B, mdO B b L fk fp nl → drD A B fk nl → (nl < 12 → drT A B nl) → ∃ B', frB B B' ∧ mdO B' b L fk' fp' (nl + 1) ∧ drD A' B' fk' (nl + 1) ∧ ∀ P, mW (mCall X D2) X cap2 156 P 102 [.ref 185, .int (tN (min nl 12)), u2, u3] [] (mN (mT (B) b L (A 184 n)), RF, moQ G b L (A 184 n), mSh) = P (some (.int (tN (1)))) (mN (mT (B') b L (A 184 n')), RF, moQ G b L (A 184 n'), mSh)) := by
  have hN := hT.1
  have hkk : ∀ n, n ≤ N → A 182 n < 256 := fun n hn => by have := tk_k hT hn; omega
  have hvv : ∀ n, n ≤ N → A 182 n = 2 → A 183 n < 65536 := fun n hn z => by have := tk_v hT hn z; omega
  have cl := fun P => l_78t (X := X) (D := D) (cap := cap) (P := P) (G := G) (A := A) (fk := fk) (fp := fp) (n := n) (N := N) (nl := nl) gu hD hn hN h181 hkk hvv (by omega) hf
  have ml := fun B (g1 : mdO B b L fk fp nl) => l_156t (X := X) (D := D2) (cap := cap2) (G := G) (B := B) (l := min nl 12) (u2 := u2) (u3 := u3) hD2 hT g1.1 (by rw [g1.2.1]; exact hf) (by rw [g1.2.2.2]; exact hnl) hn (by omega) g2 g3
  obtain ⟨z1, z2⟩ := prE_in (K := A 182) hn
  by_cases ok : prOk (A 182) N n
  · have nn : prE (A 182) N n < N := by
      rcases Nat.lt_or_ge (prE (A 182) N n) N with y | y
      · exact y
      · have e : prE (A 182) N n = N := by omega
        have := ok.2
        rw [e, hT.2.2.2.1] at this
        omega
    have st : stI N (prE (A 182) N n) = prE (A 182) N n + 1 := by unfold stI; rw [if_pos nn]
    refine Or.inr ⟨fnA A (prV (A 182) (A 183) N n), prK (A 182) (A 183) N n fk, prP (A 182) (A 183) (A 184) N n fk fp, stI N (prE (A 182) N n), by omega, by omega, fun c hc => ?_, ?_, prK_3 hf, prP_0 hfp, fun y q => ?_, fun P => (cl P).1 ok, fun B g1 d1 d2 => ?_⟩
    · by_cases c4 : c = 173
      · omega
      · rw [fnA_o (by omega)]
    · unfold fnA
      by_cases z : A 173 0 < 12
      · rw [if_pos z, aU_eq]; omega
      · rw [if_neg z]; omega
    · exact h12 (by omega) (prK_0 q)
    · obtain ⟨B1, o1, o2, o3⟩ := (ml B g1).1 ok
      obtain ⟨m1, m2, m3, m4⟩ := g1
      rw [m2] at o1
      rw [m4] at o3
      refine ⟨aU B1 185 39 (nl + 1), fun c c1 c2 => (aU_nf c1).trans (o1.2.2.2.2.1 c c1 c2), ⟨moP_s o1.1 (by decide), ?_, fun y => ?_, aU_eq⟩, dr_e h173 d1 d2 o1 o2 (fun y => ⟨prK_0 y, prV_9 ok.1 y⟩), o3⟩
      · rw [aU_ne2 (by decide)]; exact o1.2.1
      · rw [aU_ne2 (by decide), o1.2.2.1]
        exact prP_e m3 y
  · refine Or.inl ⟨prW (A 182) N n, prW_in hn, fun P => (cl P).2 ok, fun B g1 d1 d2 => ?_⟩
    obtain ⟨B', o1, o2, o3⟩ := (ml B g1).2 ok
    exact ⟨B', o1, o2, o3⟩
theorem sim_line {X : mX} {D D2 : Nat} {G : mG} {A : Nat → Nat → Nat} {b : Nat → Nat} {L N n nl fk fp : Nat} (hD : 6 ≤ D) (hD2 : 5 ≤ D2) (hn : n < N) (hT : TK b L N (A 182) (A 183) (A 184)) (h181 : A 181 0 = N + 1) (h173 : A 173 0 = min nl 12) (hf : fk ≤ 3) (hfp : fk = 0 → fp = 4294967295) (h12 : 12 < nl → fk ≠ 0) (hnl : nl ≤ 300) :
    (∃ A' w, w ≤ N ∧ frA A A' ∧ (∀ P, mCall X D 78 [.ref 172, .int (tN nl)] (mN (rdW A fk fp n), RF, G, mSh) P = P (some (.int (tN (0)))) (mN (rdW A' 1 (A 184 w) w), RF, G, mSh)) ∧ ∀ B, mdO B b L fk fp nl → drD A B fk nl → ∃ B', frB B B' ∧ B' 185 36 = A 184 w ∧ ∀ P, mCall X D2 156 [.ref 185] (mN (mT (B) b L (A 184 n)), RF, moQ G b L (A 184 n), mSh) P = P (some (.int (tN (0)))) (mN (mT (B') b L (A 184 w)), RF, moQ G b L (A 184 w), mSh))
    ∨ (∃ A' fk' fp' n', n < n' ∧ n' ≤ N ∧ frA A A' ∧ A' 173 0 = min (nl + 1) 12 ∧ fk' ≤ 3 ∧ (fk' = 0 → fp' = 4294967295) ∧ (12 < nl + 1 → fk' ≠ 0) ∧ (∀ P, mCall X D 78 [.ref 172, .int (tN nl)] (mN (rdW A fk fp n), RF, G, mSh) P = P (some (.int (tN (1)))) (mN (rdW A' fk' fp' n'), RF, G, mSh)) ∧ ∀ B, mdO B b L fk fp nl → drD A B fk nl → ∃ B', frB B B' ∧ mdO B' b L fk' fp' (nl + 1) ∧ drD A' B' fk' (nl + 1) ∧ ∀ P, mCall X D2 156 [.ref 185] (mN (mT (B) b L (A 184 n)), RF, moQ G b L (A 184 n), mSh) P = P (some (.int (tN (1)))) (mN (mT (B') b L (A 184 n')), RF, moQ G b L (A 184 n'), mSh)) := by
  have hN := hT.1
  have hn' : n ≤ N := Nat.le_of_lt hn
  have k62 := tk_k hT hn'
  have cl := fun P => cl_0 (X := X) (D := D) (P := P) (G := G) (A := A) (n := n) (N := N) (nl := nl) (fk := fk) (fp := fp) (by omega) hn' hN (by omega) (by omega) hf hnl h12
  have ml := fun P B (g1 : mdO B b L fk fp nl) => ml_0 (X := X) (D := D2) (P := P) (G := G) (B := B) (nl := nl) (by omega) hT g1.1 (by rw [g1.2.1]; exact hf) g1.2.2.2 hnl hn'
  -- after the beginning
  have a182 : bgA A 182 = A 182 := bgA_o (by decide)
  have a183 : bgA A 183 = A 183 := bgA_o (by decide)
  have a184 : bgA A 184 = A 184 := bgA_o (by decide)
  have a181 : bgA A 181 = A 181 := bgA_o (by decide)
  have a173 : bgA A 173 = A 173 := bgA_o (by decide)
  have fr1 : frA A (bgA A) := fun c hc => bgA_o (by omega)
  have dr : ∀ B, mdO B b L fk fp nl → drD A B fk nl → mdO (aU (bFl (decide (nl = 12)) 3 (A 184 n) B) 215 (min nl 12) 0) b L (kF (decide (nl = 12)) 3 fk) (pF (decide (nl = 12)) (A 184 n) fk fp) nl ∧ drD (bgA A) (aU (bFl (decide (nl = 12)) 3 (A 184 n) B) 215 (min nl 12) 0) (kF (decide (nl = 12)) 3 fk) nl ∧ (nl < 12 → drT (bgA A) (aU (bFl (decide (nl = 12)) 3 (A 184 n) B) 215 (min nl 12) 0) nl) := by
    intro B g1 g2
    obtain ⟨d1, d2, d3⟩ := dr_b (A := A) (B := bFl (decide (nl = 12)) 3 (A 184 n) B) (nl := nl) (fk := kF (decide (nl = 12)) 3 fk) h173 (drD_cg (fun c c1 c2 => bFl_o (by omega)) (kF_0 (by decide)) g2)
    exact ⟨mdO_cg (aU_nf (by decide)) (aU_nf (by decide)) (mdO_F (by decide) g1), d1, d2⟩
  have u5 : nl < 12 → bgA A 175 nl = 0 := fun y => by
    unfold bgA
    rw [if_pos (by omega), show A 173 0 = nl by omega, aU_eq]
  have frB1 : ∀ B, frB B (aU (bFl (decide (nl = 12)) 3 (A 184 n) B) 215 (min nl 12) 0) := fun B c c1 c2 => by
    rw [aU_nf (by omega), bFl_o c1]
  have k3 : kF (decide (nl = 12)) 3 fk ≤ 3 := kF_3 (by decide) hf
  have p0 := pF_0 (w := decide (nl = 12)) (f := 3) (p := A 184 n) (by decide) hfp
  have h12' : 12 ≤ nl → kF (decide (nl = 12)) 3 fk ≠ 0 := fun y => by
    by_cases c4 : nl = 12
    · unfold kF
      rw [if_pos (decide_eq_true c4)]
      exact rm_0 (by decide)
    · exact fun q => h12 (by omega) (kF_0 (by decide) q)
  generalize bgA A = A1 at *
  generalize kF (decide (nl = 12)) 3 fk = fk1 at *
  generalize pF (decide (nl = 12)) (A 184 n) fk fp = fp1 at *
  have hT1 : TK b L N (A1 182) (A1 183) (A1 184) := by rw [a182, a183, a184]; exact hT
  have h181' : A1 181 0 = N + 1 := by rw [a181]; exact h181
  have h173' : A1 173 0 = min nl 12 := by rw [a173]; exact h173
  by_cases c10 : A 182 n = 10
  · have I := sim_T (X := X) (D := D - 1) (D2 := D2 - 1) (cap2 := (mSh.length + (mAl 156).fst, mSum mSh + (mAl 156).snd)) (G := G) (A := A1) (fk := fk1) (fp := fp1) (by omega) (by omega) hn hT1 h181' h173' u5 k3 p0
    rw [a184, a173] at I
    rcases I with ⟨A', w, i1, i2, i3, i4⟩ | ⟨A', fk', fp', n', k', i1, i2, i3, i4, i5, i6, i7, i8, i9, i10⟩
    · refine Or.inl ⟨A', w, i1, fun c hc => (i2 c hc).trans (fr1 c hc), fun P => (cl P).2.2 c10 _ i3, fun B g1 g2 => ?_⟩
      obtain ⟨d1, d2, d3⟩ := dr B g1 g2
      obtain ⟨B', j1, j2, j3⟩ := i4 _ d1 d2 d3
      exact ⟨B', fun c c1 c2 => (j1 c c1 c2).trans (frB1 B c c1 c2), j2, fun P => ((ml P B g1).2 c10).trans (j3 P)⟩
    · have e182 : A' 182 = A 182 := (i4 182 (by omega)).trans a182
      have e183 : A' 183 = A 183 := (i4 183 (by omega)).trans a183
      have e184 : A' 184 = A 184 := (i4 184 (by omega)).trans a184
      have e181 : A' 181 = A 181 := (i4 181 (by omega)).trans a181
      have E := sim_E (X := X) (D := D - 1) (D2 := D2 - 1) (cap := (mSh.length + (mAl 78).fst, mSum mSh + (mAl 78).snd)) (cap2 := (mSh.length + (mAl 156).fst, mSum mSh + (mAl 156).snd)) (G := G) (A := A') (b := b) (L := L) (N := N) (n := n') (nl := nl) (fk := fk') (fp := fp') (u := .null) (u2 := .int (tN 0)) (u3 := .int (tN k')) (by omega) (by omega) mOk_null mOk_int mOk_int i2 (by rw [e182, e183, e184]; exact hT) (by rw [e181]; exact h181) (by rw [i5]; exact h173) i6 i7 (fun y => i8 (h12' y)) hnl
      rw [e184] at E
      rcases E with ⟨w, x1, x3, x4⟩ | ⟨A2, fk2, fp2, n2, x1, x2, x3, x4, x5, x6, x7, x8, x9⟩
      · refine Or.inl ⟨A', w, x1, fun c hc => (i4 c hc).trans (fr1 c hc), fun P => ((cl P).2.1 c10 _ i9).trans (x3 P), fun B g1 g2 => ?_⟩
        obtain ⟨d1, d2, d3⟩ := dr B g1 g2
        obtain ⟨B', j1, j2, j3, j4, j5⟩ := i10 _ d1 d2 d3
        obtain ⟨B2, y1, y2, y3⟩ := x4 B' j2 j3 j4
        exact ⟨B2, fun c c1 c2 => (y1 c c1 c2).trans ((j1 c c1 c2).trans (frB1 B c c1 c2)), y2, fun P => ((ml P B g1).2 c10).trans ((j5 P).trans (y3 P))⟩
      · refine Or.inr ⟨A2, fk2, fp2, n2, by omega, x2, fun c hc => (x3 c hc).trans ((i4 c hc).trans (fr1 c hc)), x4, x5, x6, x7, fun P => ((cl P).2.1 c10 _ i9).trans (x8 P), fun B g1 g2 => ?_⟩
        obtain ⟨d1, d2, d3⟩ := dr B g1 g2
        obtain ⟨B', j1, j2, j3, j4, j5⟩ := i10 _ d1 d2 d3
        obtain ⟨B2, y1, y2, y3, y4⟩ := x9 B' j2 j3 j4
        exact ⟨B2, fun c c1 c2 => (y1 c c1 c2).trans ((j1 c c1 c2).trans (frB1 B c c1 c2)), y2, y3, fun P => ((ml P B g1).2 c10).trans ((j5 P).trans (y4 P))⟩
  · have E := sim_E (X := X) (D := D - 1) (D2 := D2 - 1) (cap := (mSh.length + (mAl 78).fst, mSum mSh + (mAl 78).snd)) (cap2 := (mSh.length + (mAl 156).fst, mSum mSh + (mAl 156).snd)) (G := G) (A := A1) (b := b) (L := L) (N := N) (n := n) (nl := nl) (fk := fk1) (fp := fp1) (u := .null) (u2 := .null) (u3 := .null) (by omega) (by omega) mOk_null mOk_null mOk_null hn' hT1 h181' h173' k3 p0 h12' hnl
    rw [a184] at E
    rcases E with ⟨w, x1, x3, x4⟩ | ⟨A2, fk2, fp2, n2, x1, x2, x3, x4, x5, x6, x7, x8, x9⟩
    · refine Or.inl ⟨A1, w, x1, fr1, fun P => ((cl P).1 c10).trans (x3 P), fun B g1 g2 => ?_⟩
      obtain ⟨d1, d2, d3⟩ := dr B g1 g2
      obtain ⟨B2, y1, y2, y3⟩ := x4 _ d1 d2 d3
      exact ⟨B2, fun c c1 c2 => (y1 c c1 c2).trans (frB1 B c c1 c2), y2, fun P => ((ml P B g1).1 c10).trans (y3 P)⟩
    · refine Or.inr ⟨A2, fk2, fp2, n2, x1, x2, fun c hc => (x3 c hc).trans (fr1 c hc), x4, x5, x6, x7, fun P => ((cl P).1 c10).trans (x8 P), fun B g1 g2 => ?_⟩
      obtain ⟨d1, d2, d3⟩ := dr B g1 g2
      obtain ⟨B2, y1, y2, y3, y4⟩ := x9 _ d1 d2 d3
      exact ⟨B2, fun c c1 c2 => (y1 c c1 c2).trans (frB1 B c c1 c2), y2, y3, fun P => ((ml P B g1).1 c10).trans (y4 P)⟩

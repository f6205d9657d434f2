set_option maxRecDepth 20000
set_option maxHeartbeats 4000000
/-! STEP: seat -/
section
variable {X : mX} {D : Nat} {G : mG} {A : Nat → Nat → Nat}
theorem sQ_rn {pr sz mo pt F0 ord H : Nat → Nat} {nr m : Nat} (h : ∀ j, j < m → H (ord j) = rnN pr nr sz mo pt F0 ord j) : ∀ k, k ≤ m → sQ H ord k = rnQ pr nr sz mo pt F0 ord k
  | 0, _ => rfl
  | k + 1, hk => by
    unfold sQ rnQ
    rw [sQ_rn h k (by omega), h k (by omega)]
    by_cases c : 0 < rnN pr nr sz mo pt F0 ord k
    · rw [if_pos c, if_neg (by omega)]
    · rw [if_neg c, if_pos (by omega)]
theorem sL_rn {pr sz mo pt F0 ord H L : Nat → Nat} {nr m : Nat} (h : ∀ j, j < m → H (ord j) = rnN pr nr sz mo pt F0 ord j) : ∀ k, k ≤ m → sL H ord L k = rnL pr nr sz mo pt F0 ord L k
  | 0, _ => rfl
  | k + 1, hk => by
    unfold sL rnL
    rw [sL_rn h k (by omega), sQ_rn h k (by omega), h k (by omega)]
    by_cases c : 0 < rnN pr nr sz mo pt F0 ord k
    · rw [if_pos c, if_neg (by omega)]
    · rw [if_neg c, if_pos (by omega)]
theorem sR_0 {ord R0 : Nat → Nat} {a : Nat} (h : R0 a = 0) : ∀ k, sR ord R0 k a = 0
  | 0 => h
  | k + 1 => by
    show up (sR ord R0 k) (ord k) 0 a = 0
    unfold up
    split
    · rfl
    · exact sR_0 h k
/-- the rest of the relation, when the hall alone has changed -/
theorem Inv_hall {A2 : Nat → Nat → Nat} (h : Inv A) (q : ∀ c, (c < 10 ∨ 29 < c) → c ≠ 37 → c ≠ 160 → c ≠ 185 → c ≠ 214 → (c < 198 ∨ 204 < c) → (c < 211 ∨ 213 < c) → A2 c = A c) (q1 : ∀ c, (198 ≤ c ∧ c ≤ 204) ∨ (211 ≤ c ∧ c ≤ 213) → ∀ i, nM c ≤ i → i < 4 * nM c → A2 c i = A c i) (hH : rlH A2 1 0) : Inv A2 := by
  obtain ⟨p1, p2, p3, p4, p5, p6⟩ := h.1
  refine Inv_fr h (fun c h1 h2 => ?_) (q 220 (by omega) (by omega) (by omega) (by omega) (by omega) (by omega) (by omega)) (fun c h1 h2 i h3 h4 => ?_) (ShOK_cg (fun c h1 h2 => q c (by omega) (by omega) (by omega) (by omega) (by omega) (by omega) (by omega)) (q 161 (by omega) (by omega) (by omega) (by omega) (by omega) (by omega) (by omega)) (q 162 (by omega) (by omega) (by omega) (by omega) (by omega) (by omega) (by omega)) (Inv_sh h)) ⟨rlR_cg (fun j h1 h2 i hi => by rw [q (1 + j) (by omega) (by omega) (by omega) (by omega) (by omega) (by omega) (by omega)]) (fun c h1 h2 i hi => by rw [q c (by omega) (by omega) (by omega) (by omega) (by omega) (by omega) (by omega)]) p1, rlK_cg (fun j h1 h2 i hi => by rw [q (1 + j) (by omega) (by omega) (by omega) (by omega) (by omega) (by omega) (by omega)]) (fun c h1 h2 i hi => by rw [q c (by omega) (by omega) (by omega) (by omega) (by omega) (by omega) (by omega)]) p2, hH, rlT_cg (fun j h1 h2 i hi => by rw [q (1 + j) (by omega) (by omega) (by omega) (by omega) (by omega) (by omega) (by omega)]) (fun c h1 h2 i hi => by rw [q c (by omega) (by omega) (by omega) (by omega) (by omega) (by omega) (by omega)]) p4, rlP_cg (fun j h1 h2 i hi => by rw [q (1 + j) (by omega) (by omega) (by omega) (by omega) (by omega) (by omega) (by omega)]) (fun c h1 h2 i hi => by rw [q c (by omega) (by omega) (by omega) (by omega) (by omega) (by omega) (by omega)]) p5, rlF_cg (fun i hi => by rw [q (1 + 0) (by omega) (by omega) (by omega) (by omega) (by omega) (by omega) (by omega)]) (fun c h1 h2 i hi => by rw [q c (by omega) (by omega) (by omega) (by omega) (by omega) (by omega) (by omega)]) p6⟩
  · exact q c (by omega) (by omega) (by omega) (by omega) (by omega) (by omega) (by omega)
  · by_cases z : (198 ≤ c ∧ c ≤ 204) ∨ (211 ≤ c ∧ c ≤ 213)
    · exact q1 c z i h3 h4
    · rw [q c (by omega) (by omega) (by omega) (by omega) (by omega) (by omega) (by omega)]
theorem st_2 {way t : Nat} (hD : 20 ≤ D) (h : Inv A) (hw : way < 4294967296) (ht : t < 4294967296) : tdStp X D G A 18 [.ref 0, .int (tN way), .int (tN t)] 126 [.ref 185, .int (tN way), .int (tN t)] := by
  obtain ⟨r1, r2, r3⟩ := nR h
  obtain ⟨k1, k2, k3⟩ := nK h
  obtain ⟨h1, -⟩ := nH h
  by_cases ok : A 198 0 = 0 ∧ okW (A 193 0) way t
  · obtain ⟨h0, ok⟩ := ok
    obtain ⟨u0, u1, u2, u3, u4, u5, u6⟩ := un_all h h0
    obtain ⟨o1, o2⟩ := ordW_ok (mo := A 7) (O := A 160) ok
    have eo : ordA A way t = ordW (A 7) (A 193 0) way t (A 160) := by unfold ordA; rw [k1]
    have eo2 : ordW (A 195) (A 193 0) way t (A 160) = ordA A way t := by rw [eo]; exact (ordW_cgp (fun i hi => (k3 i hi).2.1)).symm
    rw [← eo] at o1 o2
    have cl := fun P => c_18 (X := X) (D := D) (P := P) (G := G) (A := A) (way := way) (t := t) (by omega) (nA h) u0 u2 (by rw [k1]; exact ok) (by rw [k1]; exact o1) (by rw [r1]; exact fun r hr => by rw [(r3 r hr).1]; exact (nH h).2.2.2.2.2.1.1 r hr)
    rw [k1, r1] at cl
    generalize ordA A way t = ord at *
    have cpr : ∀ r, r < A 190 0 → A 4 r = A 192 r := fun r hr => (r3 r hr).2.1
    have cas : ∀ a, a < A 193 0 → A 6 a = A 194 a ∧ A 7 a = A 195 a ∧ A 9 a = A 197 a := fun a ha => ⟨(k3 a ha).1, (k3 a ha).2.1, (k3 a ha).2.2.2.1⟩
    -- the class's state, told by the model's numbers
    have eC : seatC A ord = hallA (aF A 160 ord) 1 (rnQ (A 192) (A 190 0) (A 194) (A 195) (A 197) (A 12) ord (A 193 0)) (rnL (A 192) (A 190 0) (A 194) (A 195) (A 197) (A 12) ord (A 11) (A 193 0)) (rnF (A 192) (A 190 0) (A 194) (A 195) (A 197) (A 12) ord (A 193 0)) (rnH (A 192) (A 190 0) (A 194) (A 195) (A 197) (A 12) ord (A 14) (A 193 0)) (rnP (A 4) (A 190 0) (A 6) (A 7) (A 9) (A 12) ord (fun a => A (18 + a)) (A 15) (A 193 0)) (rnK (A 192) (A 190 0) (A 194) (A 195) (A 197) (A 12) ord (fun a => A (18 + a)) (A 193 0)) := by
      unfold seatC
      rw [r1, k1, rnQ_cgp cpr cas o1 _ (Nat.le_refl _), rnL_cgp cpr cas o1 _ (Nat.le_refl _), rnF_cgp cpr cas o1 _ (Nat.le_refl _), rnH_cgp cpr cas o1 _ (Nat.le_refl _), rnK_cgp cpr cas o1 _ (Nat.le_refl _)]
    rw [rnS_cgp cpr cas o1 _ (Nat.le_refl _)] at cl
    have qc : ∀ c, (c < 10 ∨ 29 < c) → c ≠ 160 → seatC A ord c = A c := fun c h1 h2 => by
      rw [eC, hr_o (by omega), aF_nf h2]
    -- the model's run
    generalize hB : emM (tuM (seatC A ord) ord) 0 = B
    have qb : ∀ c, (c < 10 ∨ 29 < c) → c ≠ 160 → c ≠ 185 → c ≠ 214 → c ≠ 211 → c ≠ 212 → B c = A c := fun c h1 h2 h3 h4 h5 h6 => by
      rw [← hB, emM_o h5 h6, tuM_o h3 h4, qc c h1 h2]
    have b190 := qb 190 (by omega) (by omega) (by omega) (by omega) (by omega) (by omega)
    have b191 := qb 191 (by omega) (by omega) (by omega) (by omega) (by omega) (by omega)
    have b192 := qb 192 (by omega) (by omega) (by omega) (by omega) (by omega) (by omega)
    have b193 := qb 193 (by omega) (by omega) (by omega) (by omega) (by omega) (by omega)
    have b194 := qb 194 (by omega) (by omega) (by omega) (by omega) (by omega) (by omega)
    have b195 := qb 195 (by omega) (by omega) (by omega) (by omega) (by omega) (by omega)
    have b197 := qb 197 (by omega) (by omega) (by omega) (by omega) (by omega) (by omega)
    have b212 : ∀ a, a < 12 → B 212 a = 0 := fun a ha => by
      rw [← hB]
      unfold emM
      rw [aF_ef, if_pos (by omega)]
    have b211 : ∀ i, i < 72 → B 211 i = 4294967295 := fun i hi => by
      rw [← hB]
      unfold emM
      rw [aF_nf (by decide), aF_ef, if_pos (by omega)]
    have run := run_ok (A := B) (F0 := A 12) (ord := ord) (H0 := A 14) (T0 := fun a => A (18 + a)) (m := A 193 0) (okM_cg (fun c h1 h2 => qb c (by omega) (by omega) (by omega) (by omega) (by omega) (by omega)) (nM' h)) (by rw [b193]; exact o1) o2 (fun k hk => b212 _ (by have := o1 k hk; omega)) (by
      rw [b190, b191]
      exact HI_un r2 (fun r hr => (r3 r hr).2.2.2.1) u6 b212 b211) (fun i hi => .inl (b211 i hi)) (fun a ha => by rw [b212 a ha]; exact (u3 a ha).1) (fun a i ha hi => by rw [b212 a ha] at hi; omega) (A 193 0) (Nat.le_refl _)
    have eF : fiM (seatC A ord) (A 12) ord = rmA B (A 12) ord (A 193 0) := by
      unfold fiM
      rw [flA_rm, hB, qc 193 (by omega) (by omega)]
    obtain ⟨g1, g2, g3, g4, g5, g6⟩ := run
    rw [b190, b191, b192, b194, b195, b197] at g1
    rw [b190, b192, b194, b195, b197] at g3 g4 g6
    have hT : ∀ a, a < A 193 0 → ∀ k, k < rmA B (A 12) ord (A 193 0) 212 a → rmA B (A 12) ord (A 193 0) 213 (6 * a + k) / 100 < A 190 0 ∧ rmA B (A 12) ord (A 193 0) 213 (6 * a + k) < 600 := fun a ha k hk => by
      obtain ⟨y1, y2⟩ := g1.2.2.2.1 a k (by omega) hk
      have y1 : rmA B (A 12) ord (A 193 0) 213 (6 * a + k) / 100 < A 190 0 := y1
      exact ⟨y1, by omega⟩
    have md := fun P => m_126 (X := X) (D := D) (P := P) (G := G) (A := seatC A ord) (O := A 160) (F0 := A 12) (way := way) (t := t) (by omega) (okM_cg (fun c h1 h2 => qc c (by omega) (by omega)) (nM' h)) (by rw [qc 198 (by omega) (by omega)]; exact h0) (by rw [qc 193 (by omega) (by omega)]; exact ok) (by rw [qc 190 (by omega) (by omega), qc 191 (by omega) (by omega)]; exact u6) (by rw [qc 193 (by omega) (by omega), qc 195 (by omega) (by omega), eo2, eF]; exact fun a ha => g1.2.2.2.2.2 a (by omega)) (by rw [qc 193 (by omega) (by omega), qc 195 (by omega) (by omega), eo2, eF]; exact fun a ha k hk => ⟨by have := (hT a ha k hk).1; omega, (hT a ha k hk).2⟩)
    rw [qc 190 (by omega) (by omega), qc 192 (by omega) (by omega), qc 193 (by omega) (by omega), qc 194 (by omega) (by omega), qc 195 (by omega) (by omega), qc 197 (by omega) (by omega), eo2] at md
    refine ⟨_, seatC A ord, seM (seatC A ord) (A 12) ord, G, cl, md, ?_⟩
    generalize hA2 : seM (seatC A ord) (A 12) ord = A2
    unfold seM at hA2
    rw [eF, qc 192 (by omega) (by omega), qc 193 (by omega) (by omega), qc 200 (by omega) (by omega), qc 201 (by omega) (by omega), qc 203 (by omega) (by omega)] at hA2
    have eq := sQ_rn (pr := A 192) (sz := A 194) (mo := A 195) (pt := A 197) (F0 := A 12) (nr := A 190 0) (m := A 193 0) g6 (A 193 0) (Nat.le_refl _)
    have el := sL_rn (L := A 203) (pr := A 192) (sz := A 194) (mo := A 195) (pt := A 197) (F0 := A 12) (nr := A 190 0) (m := A 193 0) g6 (A 193 0) (Nat.le_refl _)
    rw [eq, el] at hA2
    have rmo : ∀ c, (c < 10 ∨ 29 < c) → c ≠ 160 → c ≠ 185 → c ≠ 214 → c ≠ 211 → c ≠ 212 → c ≠ 213 → rmA B (A 12) ord (A 193 0) c = A c := fun c h1 h2 h3 h4 h5 h6 h7 => by rw [rmA_o h5 h6 h7, qb c h1 h2 h3 h4 h5 h6]
    have rmc : ∀ c, 10 ≤ c → c ≤ 29 → rmA B (A 12) ord (A 193 0) c = seatC A ord c := fun c h1 h2 => by rw [rmA_o (by omega) (by omega) (by omega), ← hB, emM_o (by omega) (by omega), tuM_o (by omega) (by omega)]
    have a2 : ∀ c, c ≠ 198 → c ≠ 200 → c ≠ 201 → c ≠ 202 → c ≠ 203 → A2 c = rmA B (A 12) ord (A 193 0) c := fun c h1 h2 h3 h4 h5 => by
      rw [← hA2, se_o ⟨h2, h3, h4, h5⟩, aU_aF, aU_aF, aF_nf h4, aF_nf h1]
    have a200 : A2 200 = sP (A 192) (rmA B (A 12) ord (A 193 0) 212) (rmA B (A 12) ord (A 193 0) 213) ord (A 200) (A 193 0) := by rw [← hA2, se_200]
    have a201 : A2 201 = sR ord (A 201) (A 193 0) := by rw [← hA2, se_201]
    have a203 : A2 203 = rnL (A 192) (A 190 0) (A 194) (A 195) (A 197) (A 12) ord (A 203) (A 193 0) := by rw [← hA2, se_203]
    have a202 : A2 202 0 = rnQ (A 192) (A 190 0) (A 194) (A 195) (A 197) (A 12) ord (A 193 0) := by rw [← hA2, se_202]
    have a202i : ∀ i, i ≠ 0 → A2 202 i = A 202 i := fun i hi => by
      rw [← hA2]
      show (if i = 0 then _ else aU (aU (rmA B (A 12) ord (A 193 0)) 198 0 1) 202 0 0 202 i) = _
      rw [if_neg hi, aU_ne2 hi, aU_ne (by decide), rmo 202 (by omega) (by omega) (by omega) (by omega) (by omega) (by omega) (by omega)]
    have a198 : A2 198 0 = 1 := by
      rw [← hA2, se_o (by decide), aU_ne (by decide), aU_eq]
    have a198i : ∀ i, i ≠ 0 → A2 198 i = A 198 i := fun i hi => by
      rw [← hA2, se_o (by decide), aU_ne (by decide), aU_ne2 hi, rmo 198 (by omega) (by omega) (by omega) (by omega) (by omega) (by omega) (by omega)]
    clear hA2
    have c10 : ∀ i, A2 10 i = if i = 0 then 1 else if i = 2 then rnQ (A 192) (A 190 0) (A 194) (A 195) (A 197) (A 12) ord (A 193 0) else A 10 i := fun i => by
      rw [a2 10 (by omega) (by omega) (by omega) (by omega) (by omega), rmc 10 (by omega) (by omega), eC]
      show (if i = 0 then 1 else if i = 2 then _ else aF A 160 ord 10 i) = _
      rw [aF_nf (by decide)]
    have c11 : A2 11 = rnL (A 192) (A 190 0) (A 194) (A 195) (A 197) (A 12) ord (A 11) (A 193 0) := by rw [a2 11 (by omega) (by omega) (by omega) (by omega) (by omega), rmc 11 (by omega) (by omega), eC, hr_11]
    have c12 : A2 12 = rnF (A 192) (A 190 0) (A 194) (A 195) (A 197) (A 12) ord (A 193 0) := by rw [a2 12 (by omega) (by omega) (by omega) (by omega) (by omega), rmc 12 (by omega) (by omega), eC, hr_12]
    have c14 : A2 14 = rnH (A 192) (A 190 0) (A 194) (A 195) (A 197) (A 12) ord (A 14) (A 193 0) := by rw [a2 14 (by omega) (by omega) (by omega) (by omega) (by omega), rmc 14 (by omega) (by omega), eC, hr_14]
    have c15 : A2 15 = rnP (A 4) (A 190 0) (A 6) (A 7) (A 9) (A 12) ord (fun a => A (18 + a)) (A 15) (A 193 0) := by rw [a2 15 (by omega) (by omega) (by omega) (by omega) (by omega), rmc 15 (by omega) (by omega), eC, hr_15]
    have ct : ∀ a, a < 12 → A2 (18 + a) = rnK (A 192) (A 190 0) (A 194) (A 195) (A 197) (A 12) ord (fun a => A (18 + a)) (A 193 0) a := fun a ha => by rw [a2 (18 + a) (by omega) (by omega) (by omega) (by omega) (by omega), rmc (18 + a) (by omega) (by omega), eC, hr_t ha]
    have c13 : A2 13 = A 13 := by rw [a2 13 (by omega) (by omega) (by omega) (by omega) (by omega), rmc 13 (by omega) (by omega), eC, hr_o (by omega), aF_nf (by decide)]
    have c16 : A2 16 = A 16 := by rw [a2 16 (by omega) (by omega) (by omega) (by omega) (by omega), rmc 16 (by omega) (by omega), eC, hr_o (by omega), aF_nf (by decide)]
    have m2 : ∀ c, (c < 10 ∨ 29 < c) → c ≠ 160 → c ≠ 185 → c ≠ 214 → (c < 198 ∨ 204 < c ∨ c = 199 ∨ c = 204) → (c < 211 ∨ 213 < c) → A2 c = A c := fun c h1 h2 h3 h4 h5 h6 => by rw [a2 c (by omega) (by omega) (by omega) (by omega) (by omega), rmo c (by omega) (by omega) (by omega) (by omega) (by omega) (by omega) (by omega)]
    -- what was paid
    have pay : ∀ k, k ≤ A 193 0 → ∀ a, a < 12 → rnP (A 4) (A 190 0) (A 6) (A 7) (A 9) (A 12) ord (fun a => A (18 + a)) (A 15) k a = sP (A 192) (rmA B (A 12) ord (A 193 0) 212) (rmA B (A 12) ord (A 193 0) 213) ord (A 200) k a := by
      intro k
      induction k with
      | zero =>
        intro _ a ha
        show A 15 a = A 200 a
        rw [(u3 a ha).2.1, (u3 a ha).2.2.2.2.1]
      | succ k ih =>
        intro hk a ha
        show up (rnP (A 4) (A 190 0) (A 6) (A 7) (A 9) (A 12) ord (fun a => A (18 + a)) (A 15) k) (ord k) _ a = up (sP _ _ _ ord (A 200) k) (ord k) _ a
        unfold up
        split
        · have ho := o1 k (by omega)
          rw [rnP_0 k (fun j hj => o2 j k hj (by omega)), (u3 (ord k) (by omega)).2.1, Nat.zero_add, rnN_cgp cpr cas o1 (show k < A 193 0 by omega), g6 k (by omega)]
          refine psm_cg _ (fun i hi => ?_)
          have hi2 : i < rmA B (A 12) ord (A 193 0) 212 (ord k) := by rw [g6 k (by omega)]; exact hi
          have e1 := g4 (ord k) i (by omega) hi2
          rw [rnK_0 o2 (A 193 0) (by omega) (Nat.le_refl _), rnT_at hi] at e1
          rw [rnT_cgp cpr cas o1 (show k < A 193 0 by omega), rnT_at hi, e1]
          exact cpr _ (hT (ord k) ho i hi2).1
        · exact ih (by omega) a ha
    have ln := rnL_ok (F0 := A 12) (ord := ord) (m := A 193 0) (pr := A 192) (nr := A 190 0) (sz := A 194) (mo := A 195) (pt := A 197) (L := A 203) o2 (A 193 0) (Nat.le_refl _)
    have n1 : nM 198 = 1 ∧ nM 199 = 1 ∧ nM 202 = 1 ∧ nM 200 = 12 ∧ nM 201 = 12 ∧ nM 203 = 12 ∧ nM 204 = 72 ∧ nM 211 = 72 ∧ nM 212 = 12 ∧ nM 213 = 72 := by decide
    have hiP : ∀ k, k ≤ A 193 0 → ∀ i, 12 ≤ i → sP (A 192) (rmA B (A 12) ord (A 193 0) 212) (rmA B (A 12) ord (A 193 0) 213) ord (A 200) k i = A 200 i := by
      intro k
      induction k with
      | zero => intro _ i _; rfl
      | succ k ih =>
        intro hk i hi
        have := o1 k (by omega)
        exact (up_ne (by omega)).trans (ih (by omega) i hi)
    have hiR : ∀ k, k ≤ A 193 0 → ∀ i, 12 ≤ i → sR ord (A 201) k i = A 201 i := by
      intro k
      induction k with
      | zero => intro _ i _; rfl
      | succ k ih =>
        intro hk i hi
        have := o1 k (by omega)
        exact (up_ne (by omega)).trans (ih (by omega) i hi)
    have hiM : ∀ k, k ≤ A 193 0 → (∀ i, 72 ≤ i → rmA B (A 12) ord k 211 i = A 211 i) ∧ (∀ i, 12 ≤ i → rmA B (A 12) ord k 212 i = A 212 i) ∧ (∀ i, 72 ≤ i → rmA B (A 12) ord k 213 i = A 213 i) := by
      intro k
      induction k with
      | zero =>
        intro _
        refine ⟨fun i hi => ?_, fun i hi => ?_, fun i hi => ?_⟩
        · show B 211 i = _
          rw [← hB]
          unfold emM
          rw [aF_nf (by decide), aF_ef, if_neg (by omega), tuM_o (by decide) (by decide), qc 211 (by omega) (by omega)]
        · show B 212 i = _
          rw [← hB]
          unfold emM
          rw [aF_ef, if_neg (by omega), tuM_o (by decide) (by decide), qc 212 (by omega) (by omega)]
        · show B 213 i = _
          rw [qb 213 (by omega) (by omega) (by omega) (by omega) (by omega) (by omega)]
      | succ k ih =>
        intro hk
        obtain ⟨j1, j2, j3⟩ := ih (by omega)
        have ho := o1 k (by omega)
        obtain ⟨s1, s2, s3, s4⟩ := (nM' h).2.2.2.2 (ord k) ho
        have rk := run_ok (A := B) (F0 := A 12) (ord := ord) (H0 := A 14) (T0 := fun a => A (18 + a)) (m := A 193 0) (okM_cg (fun c h1 h2 => qb c (by omega) (by omega) (by omega) (by omega) (by omega) (by omega)) (nM' h)) (by rw [b193]; exact o1) o2 (fun k hk => b212 _ (by have := o1 k hk; omega)) (by
          rw [b190, b191]
          exact HI_un r2 (fun r hr => (r3 r hr).2.2.2.1) u6 b212 b211) (fun i hi => .inl (b211 i hi)) (fun a ha => by rw [b212 a ha]; exact (u3 a ha).1) (fun a i ha hi => by rw [b212 a ha] at hi; omega) k (by omega)
        have rk1 := rk.1
        rw [b190, b191, b192, b194, b195, b197] at rk1
        have tp : ∀ j, j < rnN (A 192) (A 190 0) (A 194) (A 195) (A 197) (A 12) ord k → posN 0 (rnPl B (A 12) ord k) j < 72 := by
          intro j hj
          obtain ⟨y1, y2, y3, y4⟩ := ttP_ok (w := A 191) s1 s2 r2 (fun r hr => (r3 r hr).2.2.2.1) rk1.1 hj
          unfold posN rnPl
          rw [b190, b192, b194, b195, b197]
          have := (r3 _ y1).2.2.2.1
          omega
        have hN : rnN (A 192) (A 190 0) (A 194) (A 195) (A 197) (A 12) ord k ≤ 6 := by
          rcases ttN_le (pr := A 192) (F := rnF (A 192) (A 190 0) (A 194) (A 195) (A 197) (A 12) ord k) (sz := A 194 (ord k)) (most := A 195 (ord k)) (pt := A 197 (ord k)) (nr := A 190 0) with q | q
          · unfold rnN; omega
          · unfold rnN; omega
        refine ⟨fun i hi => ?_, fun i hi => ?_, fun i hi => ?_⟩
        · rw [rm_211, b190, b192, b194, b195, b197, oSet_miss _ (fun j hj z => by have := tp j hj; omega)]
          exact j1 i hi
        · rw [rm_212, up_ne (by omega)]
          exact j2 i hi
        · rw [rm_213, b190, b192, b194, b195, b197, if_neg (by omega)]
          exact j3 i hi
    have hiL : ∀ k, k ≤ A 193 0 → ∀ i, 12 ≤ i → rnL (A 192) (A 190 0) (A 194) (A 195) (A 197) (A 12) ord (A 203) k i = A 203 i := fun k hk i hi => rnL_hi k (by omega)
    obtain ⟨mi1, mi2, mi3⟩ := hiM (A 193 0) (Nat.le_refl _)
    refine Inv_hall h (fun c h1 _ h2 h3 h4 h5 h6 => m2 c h1 h2 h3 h4 (by omega) h6) (fun c hc i hi1 hi2 => ?_) ?_
    · have hc' : c = 198 ∨ c = 199 ∨ c = 200 ∨ c = 201 ∨ c = 202 ∨ c = 203 ∨ c = 204 ∨ c = 211 ∨ c = 212 ∨ c = 213 := by omega
      rcases hc' with rfl | rfl | rfl | rfl | rfl | rfl | rfl | rfl | rfl | rfl
      · exact a198i i (by omega)
      · rw [m2 199 (by omega) (by omega) (by omega) (by omega) (by omega) (by omega)]
      · rw [a200]; exact hiP _ (Nat.le_refl _) i (by omega)
      · rw [a201]; exact hiR _ (Nat.le_refl _) i (by omega)
      · exact a202i i (by omega)
      · rw [a203]; exact hiL _ (Nat.le_refl _) i (by omega)
      · rw [m2 204 (by omega) (by omega) (by omega) (by omega) (by omega) (by omega)]
      · rw [a2 211 (by omega) (by omega) (by omega) (by omega) (by omega)]; exact mi1 i (by omega)
      · rw [a2 212 (by omega) (by omega) (by omega) (by omega) (by omega)]; exact mi2 i (by omega)
      · rw [a2 213 (by omega) (by omega) (by omega) (by omega) (by omega)]; exact mi3 i (by omega)
    · have hQ := rnQ_le (A 193 0) (pr := A 192) (nr := A 190 0) (sz := A 194) (mo := A 195) (pt := A 197) (F0 := A 12) (ord := ord)
      have key : (A2 10 0 = A2 198 0 ∧ A2 198 0 ≤ 1 ∧ A2 10 1 = A2 199 0 ∧ A2 199 0 ≤ 30 ∧ A2 10 2 = A2 202 0 ∧ A2 202 0 ≤ 12) ∧ (∀ k, k < A2 202 0 → A2 11 k = A2 203 k ∧ A2 203 k < A2 193 0 ∧ A2 212 (A2 203 k) = 0) ∧ (∀ i k, i < k → k < A2 202 0 → A2 203 i ≠ A2 203 k) ∧ (∀ a, a < 12 → A2 14 a = A2 212 a ∧ A2 15 a = A2 200 a ∧ A2 16 a = A2 201 a ∧ (A2 193 0 ≤ a → A2 212 a = 0)) ∧ (∀ a k, a < 12 → k < A2 212 a → A2 (18 + a) k = A2 213 (6 * a + k)) ∧ HI (A2 190 0) (A2 191) (A2 12) (A2 212) (fun a k => A2 213 (6 * a + k)) (A2 211) ∧ (∀ i, i < 72 → (A2 211 i = 4294967295 ∨ A2 211 i < 12) ∧ A2 204 i ≤ 1) ∧ (∀ r, r < 6 → A2 13 r < 4096 ∧ (A2 190 0 ≤ r → A2 13 r = 0) ∧ ∀ j, j < 12 → ((A2 13 r).testBit j = true ↔ A2 204 (12 * r + j) = 1)) ∧ (A2 198 0 = 0 → A2 202 0 = 0 ∧ (∀ i, i < 72 → A2 211 i = 4294967295 ∧ A2 204 i = 0) ∧ (∀ a, a < 12 → A2 212 a = 0 ∧ A2 200 a = 0 ∧ A2 201 a = 0)) := by
        rw [a198, a202, a203, c11, c12, c13, c14, c15, c16, a200, a201, m2 190 (by omega) (by omega) (by omega) (by omega) (by omega) (by omega), m2 191 (by omega) (by omega) (by omega) (by omega) (by omega) (by omega), m2 193 (by omega) (by omega) (by omega) (by omega) (by omega) (by omega), m2 199 (by omega) (by omega) (by omega) (by omega) (by omega) (by omega), m2 204 (by omega) (by omega) (by omega) (by omega) (by omega) (by omega), a2 211 (by omega) (by omega) (by omega) (by omega) (by omega), a2 212 (by omega) (by omega) (by omega) (by omega) (by omega), a2 213 (by omega) (by omega) (by omega) (by omega) (by omega), c10 0, c10 1, c10 2]
        refine ⟨⟨rfl, by omega, h1.2.2.1, h1.2.2.2.1, rfl, by omega⟩, fun k hk => ?_, ln.2, fun a ha => ⟨g3 a ha, pay _ (Nat.le_refl _) a ha, ?_, fun z => ?_⟩, fun a k ha hk => ?_, g1, fun i hi => ⟨g2 i hi, by rw [(u4 i hi).2]; omega⟩, fun r hr => ?_, fun z => absurd z (by decide)⟩
        · obtain ⟨j, j1, j2, j3⟩ := ln.1 k hk
          refine ⟨rnL_in (A 193 0) k hk, ?_, ?_⟩
          · rw [j2]; exact o1 j j1
          · rw [j2, g6 j j1]; exact j3
        · rw [(u3 a ha).2.2.1, sR_0 (u3 a ha).2.2.2.2.2]
        · rw [g5 a (fun j hj y => by have := o1 j hj; omega)]
          exact b212 a ha
        · rw [ct a ha]
          exact g4 a k ha hk
        · rw [u5 r hr]
          refine ⟨by decide, fun _ => rfl, fun j hj => ?_⟩
          rw [Nat.zero_testBit, (u4 (12 * r + j) (by omega)).2]
          exact ⟨fun z => (by cases z), fun z => absurd z (by decide)⟩
      exact key
  · refine ⟨_, A, aU A 185 0 0, G, fun P => c_18n (by omega) hw ht (by omega) (by omega) (by rw [h1.1, k1]; exact ok), fun P => m_126n (by omega) hw ht k2 h1.2.1 ok, Inv_185 h⟩
end

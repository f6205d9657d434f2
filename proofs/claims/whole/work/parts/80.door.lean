set_option maxRecDepth 20000
set_option maxHeartbeats 4000000
/-! STEP: door -/
section
variable {X : mX} {D : Nat} {G : mG} {A : Nat → Nat → Nat}
theorem st_15 {r s : Nat} (hD : 20 ≤ D) (h : Inv A) (hr : r < 4294967296) (hs : s < 4294967296) : tdStp X D G A 99 [.ref 0, .int (tN r), .int (tN s)] 169 [.ref 185, .int (tN r), .int (tN s)] := by
  obtain ⟨r1, r2, r3⟩ := nR h
  obtain ⟨k1, k2, k3⟩ := nK h
  obtain ⟨h1, h2, h3, h4, h5, h6, h7, h8, h9⟩ := nH h
  obtain ⟨q1, q2⟩ := hd_6 h
  have cl := fun P => c_99 (X := X) (D := D) (P := P) (G := G) (A := A) (r := r) (s := s) (by omega) hr hs (by omega) (by omega) (by rw [r1]; exact fun r hr => by rw [(r3 r hr).1]; exact (r3 r hr).2.2.2.1) q1 q2 (by omega) (by rw [r1]; exact fun r hr => (h8 r (by omega)).1)
  have hO : ∀ i, i < 72 → A 211 i < 4294967296 := fun i hi => by have := (h7 i hi).1; omega
  by_cases c : (r < A 190 0 ∧ s < A 191 r) ∧ A 199 0 = 0 ∧ ¬ A 211 (12 * r + s) = 4294967295 ∧ A 204 (12 * r + s) = 0
  · obtain ⟨⟨d1, d2⟩, d3, d4, d5⟩ := c
    obtain ⟨w1, w2, w3, w4, w5⟩ := r3 r d1
    have ae := at_eq (r := r) (s := s) h
    rw [if_pos (show r < A 2 0 ∧ s < A 3 r from ⟨by omega, by omega⟩), if_pos ⟨d1, d2⟩] at ae
    have hb : (A 13 r).testBit s = false := by
      by_cases z : (A 13 r).testBit s = true
      · have := ((h8 r (by omega)).2.2 s (by omega)).mp z
        omega
      · simpa using z
    refine ⟨_, aU A 13 r (A 13 r ||| 1 <<< s), aU (aU (aU A 13 r (A 13 r ||| 1 <<< s)) 185 0 0) 204 (12 * r + s) 1, G, fun P => by rw [cl P, if_pos ⟨⟨by omega, by omega⟩, by omega, by rw [ae]; exact d4, hb⟩], fun P => ?_, ?_⟩
    · have o : ∀ c, c ≠ 13 → aU A 13 r (A 13 r ||| 1 <<< s) c = A c := fun c hc => by rw [aU_aF, aF_nf hc]
      rw [m_169 (by omega) hr hs (by rw [o 190 (by decide)]; exact r2) (by rw [o 190 (by decide), o 191 (by decide)]; exact fun r hr => ⟨(r3 r hr).2.2.1, (r3 r hr).2.2.2.1⟩) (by rw [o 199 (by decide)]; omega) (by rw [o 211 (by decide)]; exact hO) (by rw [o 204 (by decide)]; exact fun i hi => (h7 i hi).2), if_pos (by rw [o 190 (by decide), o 191 (by decide), o 199 (by decide), o 211 (by decide), o 204 (by decide)]; exact ⟨⟨d1, d2⟩, d3, d4, d5⟩)]
    · generalize hA2 : aU (aU (aU A 13 r (A 13 r ||| 1 <<< s)) 185 0 0) 204 (12 * r + s) 1 = A2
      have q : ∀ c, c ≠ 13 → c ≠ 185 → c ≠ 204 → A2 c = A c := fun c h1 h2 h3 => by rw [← hA2, aU_aF, aF_nf h3, zA h2, aU_aF, aF_nf h1]
      have q13 : ∀ i, A2 13 i = if i = r then A 13 r ||| 1 <<< s else A 13 i := fun i => by
        rw [← hA2, aU_ne (by decide), aU_ne (by decide)]
        by_cases z : i = r
        · rw [if_pos z, z, aU_eq]
        · rw [if_neg z, aU_ne2 z]
      have q204 : ∀ i, A2 204 i = if i = 12 * r + s then 1 else A 204 i := fun i => by
        rw [← hA2]
        by_cases z : i = 12 * r + s
        · rw [if_pos z, z, aU_eq]
        · rw [if_neg z, aU_ne2 z, zA (by decide), aU_ne (by decide)]
      clear hA2
      have n1 : nM 204 = 72 := by decide
      refine Inv_hall h (fun c h1 _ _ h2 _ h3 h4 => q c (by omega) (by omega) (by omega)) (fun c hc i hi1 hi2 => ?_) ?_
      · by_cases z : c = 204
        · subst z
          rw [q204, if_neg (by omega)]
        · rw [q c (by omega) (by omega) (by omega)]
      · have key : (A2 10 0 = A2 198 0 ∧ A2 198 0 ≤ 1 ∧ A2 10 1 = A2 199 0 ∧ A2 199 0 ≤ 30 ∧ A2 10 2 = A2 202 0 ∧ A2 202 0 ≤ 12) ∧ (∀ k, k < A2 202 0 → A2 11 k = A2 203 k ∧ A2 203 k < A2 193 0 ∧ A2 212 (A2 203 k) = 0) ∧ (∀ i k, i < k → k < A2 202 0 → A2 203 i ≠ A2 203 k) ∧ (∀ a, a < 12 → A2 14 a = A2 212 a ∧ A2 15 a = A2 200 a ∧ A2 16 a = A2 201 a ∧ (A2 193 0 ≤ a → A2 212 a = 0)) ∧ (∀ a k, a < 12 → k < A2 212 a → A2 (18 + a) k = A2 213 (6 * a + k)) ∧ HI (A2 190 0) (A2 191) (A2 12) (A2 212) (fun a k => A2 213 (6 * a + k)) (A2 211) ∧ (∀ i, i < 72 → (A2 211 i = 4294967295 ∨ A2 211 i < 12) ∧ A2 204 i ≤ 1) ∧ (∀ r, r < 6 → A2 13 r < 4096 ∧ (A2 190 0 ≤ r → A2 13 r = 0) ∧ ∀ j, j < 12 → ((A2 13 r).testBit j = true ↔ A2 204 (12 * r + j) = 1)) ∧ (A2 198 0 = 0 → A2 202 0 = 0 ∧ (∀ i, i < 72 → A2 211 i = 4294967295 ∧ A2 204 i = 0) ∧ (∀ a, a < 12 → A2 212 a = 0 ∧ A2 200 a = 0 ∧ A2 201 a = 0)) := by
          rw [q 10 (by decide) (by decide) (by decide), q 11 (by decide) (by decide) (by decide), q 12 (by decide) (by decide) (by decide), q 14 (by decide) (by decide) (by decide), q 15 (by decide) (by decide) (by decide), q 16 (by decide) (by decide) (by decide), q 190 (by decide) (by decide) (by decide), q 191 (by decide) (by decide) (by decide), q 193 (by decide) (by decide) (by decide), q 198 (by decide) (by decide) (by decide), q 199 (by decide) (by decide) (by decide), q 200 (by decide) (by decide) (by decide), q 201 (by decide) (by decide) (by decide), q 202 (by decide) (by decide) (by decide), q 203 (by decide) (by decide) (by decide), q 211 (by decide) (by decide) (by decide), q 212 (by decide) (by decide) (by decide), q 213 (by decide) (by decide) (by decide)]
          refine ⟨h1, h2, h3, h4, fun a k ha hk => by rw [q (18 + a) (by omega) (by omega) (by omega)]; exact h5 a k ha hk, h6, fun i hi => ⟨(h7 i hi).1, ?_⟩, fun r' hr' => ?_, fun z => absurd ((h9 z).2.1 (12 * r + s) (by omega)).1 d4⟩
          · rw [q204]
            split
            · exact Nat.le_refl _
            · exact (h7 i hi).2
          · obtain ⟨g1, g2, g3⟩ := h8 r' hr'
            rw [q13]
            by_cases z : r' = r
            · subst z
              rw [if_pos rfl]
              refine ⟨or_lt g1 (by omega), fun y => absurd y (by omega), fun j hj => ?_⟩
              rw [or_bit, q204]
              by_cases z2 : j = s
              · subst z2
                rw [if_pos rfl, decide_eq_true rfl, Bool.or_true]
                exact ⟨fun _ => rfl, fun _ => rfl⟩
              · rw [if_neg (by omega), decide_eq_false (fun y => z2 y.symm), Bool.or_false]
                exact g3 j hj
            · rw [if_neg z]
              refine ⟨g1, g2, fun j hj => ?_⟩
              rw [q204, if_neg (by omega)]
              exact g3 j hj
        exact key
  · refine ⟨_, A, aU A 185 0 0, G, fun P => by
      rw [cl P, if_neg ?_]
      rintro ⟨⟨d1, d2⟩, d3, d4, d5⟩
      have d1' : r < A 190 0 := by omega
      obtain ⟨w1, w2, w3, w4, w5⟩ := r3 r d1'
      have ae := at_eq (r := r) (s := s) h
      rw [if_pos ⟨d1, d2⟩, if_pos ⟨d1', by omega⟩] at ae
      refine c ⟨⟨d1', by omega⟩, by omega, by rw [← ae]; exact d4, ?_⟩
      have b := (h7 (12 * r + s) (by omega)).2
      by_cases z : A 204 (12 * r + s) = 1
      · have := ((h8 r (by omega)).2.2 s (by omega)).mpr z
        rw [d5] at this; cases this
      · omega, fun P => ?_, Inv_185 h⟩
    rw [m_169 (by omega) hr hs r2 (fun r hr => ⟨(r3 r hr).2.2.1, (r3 r hr).2.2.2.1⟩) (by omega) hO (fun i hi => (h7 i hi).2), if_neg c]
end

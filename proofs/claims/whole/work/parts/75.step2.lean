set_option maxRecDepth 20000
set_option maxHeartbeats 4000000
/-! STEPS: rows and asks are added, days, tape, clear, doors -/
theorem HI_un {nr : Nat} {w F H O : Nat → Nat} {T : Nat → Nat → Nat} (hn : nr ≤ 6) (h12 : ∀ r, r < nr → w r ≤ 12) (hF : ∀ r, r < nr → F r = 1 <<< w r - 1) (hH : ∀ a, a < 12 → H a = 0) (hO : ∀ i, i < 72 → O i = 4294967295) : HI nr w F H T O := by
  refine ⟨fun r hr => ?_, fun r j hr hj => ?_, fun r j a hr hj ha => ?_, fun a k ha hk => ?_, fun a i k ha _ hk => ?_, fun a ha => ?_⟩
  · rw [hF r hr]; exact full_lt
  · have := h12 r hr
    rw [hF r hr, hO _ (by omega), Nat.one_shiftLeft, Nat.testBit_two_pow_sub_one]
    exact ⟨fun _ => rfl, fun _ => decide_eq_true hj⟩
  · have := h12 r hr
    rw [hO _ (by omega), hH a ha]
    exact ⟨fun z => absurd z (by omega), fun ⟨k, k1, _⟩ => absurd k1 (by omega)⟩
  · rw [hH a ha] at hk; omega
  · rw [hH a ha] at hk; omega
  · rw [hH a ha]; omega
theorem HI_full {nr : Nat} {w F H O : Nat → Nat} {T : Nat → Nat → Nat} {r : Nat} (hr : r < nr) (h12 : w r ≤ 12) (hr6 : r < 6) (hO : ∀ i, i < 72 → O i = 4294967295) (h : HI nr w F H T O) : F r = 1 <<< w r - 1 := by
  apply Nat.eq_of_testBit_eq
  intro j
  rw [Nat.one_shiftLeft, Nat.testBit_two_pow_sub_one]
  by_cases c : j < w r
  · rw [decide_eq_true c]
    exact (h.2.1 r j hr c).mpr (hO _ (by omega))
  · rw [decide_eq_false c]
    exact bit_hi (h.1 r hr) (by omega)
theorem bits_0 {x : Nat} (h : x < 4096) (hb : ∀ j, j < 12 → x.testBit j = false) : x = 0 := by
  apply Nat.eq_of_testBit_eq
  intro j
  rw [Nat.zero_testBit]
  by_cases c : j < 12
  · exact hb j c
  · exact bit_hi (w := 12) h (by omega)
/-- a hall in which nobody is seated -/
theorem rlH_un {A : Nat → Nat → Nat} (hR : A 190 0 ≤ 6 ∧ ∀ r, r < A 190 0 → A 191 r ≤ 12) (b0 : A 10 0 = 0) (b1 : A 198 0 = 0) (b2 : A 10 1 = A 199 0) (b3 : A 199 0 ≤ 30) (b4 : A 10 2 = 0) (b5 : A 202 0 = 0) (b6 : ∀ a, a < 12 → A 14 a = 0 ∧ A 15 a = 0 ∧ A 16 a = 0 ∧ A 212 a = 0 ∧ A 200 a = 0 ∧ A 201 a = 0) (b7 : ∀ i, i < 72 → A 211 i = 4294967295 ∧ A 204 i = 0) (b8 : ∀ r, r < 6 → A 13 r = 0) (b9 : ∀ r, r < A 190 0 → A 12 r = 1 <<< A 191 r - 1) : rlH A 1 0 := by
  have key : (A 10 0 = A 198 0 ∧ A 198 0 ≤ 1 ∧ A 10 1 = A 199 0 ∧ A 199 0 ≤ 30 ∧ A 10 2 = A 202 0 ∧ A 202 0 ≤ 12) ∧ (∀ k, k < A 202 0 → A 11 k = A 203 k ∧ A 203 k < A 193 0 ∧ A 212 (A 203 k) = 0) ∧ (∀ i k, i < k → k < A 202 0 → A 203 i ≠ A 203 k) ∧ (∀ a, a < 12 → A 14 a = A 212 a ∧ A 15 a = A 200 a ∧ A 16 a = A 201 a ∧ (A 193 0 ≤ a → A 212 a = 0)) ∧ (∀ a k, a < 12 → k < A 212 a → A (18 + a) k = A 213 (6 * a + k)) ∧ HI (A 190 0) (A 191) (A 12) (A 212) (fun a k => A 213 (6 * a + k)) (A 211) ∧ (∀ i, i < 72 → (A 211 i = 4294967295 ∨ A 211 i < 12) ∧ A 204 i ≤ 1) ∧ (∀ r, r < 6 → A 13 r < 4096 ∧ (A 190 0 ≤ r → A 13 r = 0) ∧ ∀ j, j < 12 → ((A 13 r).testBit j = true ↔ A 204 (12 * r + j) = 1)) ∧ (A 198 0 = 0 → A 202 0 = 0 ∧ (∀ i, i < 72 → A 211 i = 4294967295 ∧ A 204 i = 0) ∧ (∀ a, a < 12 → A 212 a = 0 ∧ A 200 a = 0 ∧ A 201 a = 0)) := by
    refine ⟨⟨by omega, by omega, b2, b3, by omega, by omega⟩, fun k hk => absurd hk (by omega), fun i k _ hk => absurd hk (by omega), fun a ha => ?_, fun a k ha hk => ?_, ?_, fun i hi => ?_, fun r hr => ?_, fun _ => ⟨b5, b7, fun a ha => ?_⟩⟩
    · obtain ⟨q1, q2, q3, q4, q5, q6⟩ := b6 a ha
      exact ⟨by omega, by omega, by omega, fun _ => q4⟩
    · rw [(b6 a ha).2.2.2.1] at hk; omega
    · exact HI_un hR.1 hR.2 b9 (fun a ha => (b6 a ha).2.2.2.1) (fun i hi => (b7 i hi).1)
    · obtain ⟨q1, q2⟩ := b7 i hi
      exact ⟨.inl q1, by omega⟩
    · rw [b8 r hr]
      refine ⟨by decide, fun _ => rfl, fun j hj => ?_⟩
      rw [Nat.zero_testBit, (b7 (12 * r + j) (by omega)).2]
      exact ⟨fun z => (by cases z), fun z => absurd z (by decide)⟩
    · exact (b6 a ha).2.2.2
  exact key
theorem un_all {A : Nat → Nat → Nat} (h : Inv A) (h0 : A 198 0 = 0) : A 10 0 = 0 ∧ A 202 0 = 0 ∧ A 10 2 = 0 ∧ (∀ a, a < 12 → A 14 a = 0 ∧ A 15 a = 0 ∧ A 16 a = 0 ∧ A 212 a = 0 ∧ A 200 a = 0 ∧ A 201 a = 0) ∧ (∀ i, i < 72 → A 211 i = 4294967295 ∧ A 204 i = 0) ∧ (∀ r, r < 6 → A 13 r = 0) ∧ (∀ r, r < A 190 0 → A 12 r = 1 <<< A 191 r - 1) := by
  obtain ⟨h1, h2, h3, h4, h5, h6, h7, h8, h9⟩ := nH h
  obtain ⟨r1, r2, r3⟩ := nR h
  obtain ⟨g1, g2, g3⟩ := h9 h0
  refine ⟨by omega, g1, by omega, fun a ha => ?_, g2, fun r hr => ?_, fun r hr => ?_⟩
  · obtain ⟨q1, q2, q3, -⟩ := h4 a ha
    obtain ⟨p1, p2, p3⟩ := g3 a ha
    exact ⟨by omega, by omega, by omega, p1, p2, p3⟩
  · obtain ⟨k1, k2, k3⟩ := h8 r hr
    refine bits_0 k1 (fun j hj => ?_)
    by_cases z : (A 13 r).testBit j = true
    · have := (k3 j hj).mp z
      rw [(g2 (12 * r + j) (by omega)).2] at this
      exact absurd this (by decide)
    · simpa using z
  · exact HI_full hr (r3 r hr).2.2.2.1 (by omega) (fun i hi => (g2 i hi).1) h6
section
variable {X : mX} {D : Nat} {G : mG} {A : Nat → Nat → Nat}
theorem rowA_o {s p c : Nat} (h1 : c ≠ 161) (h2 : c ≠ 3) (h3 : c ≠ 4) (h4 : c ≠ 2) (h5 : c ≠ 12) : rowA A s p c = A c := by
  unfold rowA
  rw [aU_aF, aU_aF, aU_aF, aU_aF, aU_aF, aF_nf h5, aF_nf h4, aF_nf h3, aF_nf h2, aF_nf h1]
theorem st_0 {s p : Nat} (hD : 20 ≤ D) (h : Inv A) (hs : s < 4294967296) (hp : p < 4294967296) : tdStp X D G A 13 [.ref 0, .int (tN s), .int (tN p)] 123 [.ref 185, .int (tN s), .int (tN p)] := by
  obtain ⟨r1, r2, r3⟩ := nR h
  obtain ⟨h1, -⟩ := nH h
  by_cases ok : okRow A s p
  · have ok' := ok
    obtain ⟨o1, o2, o3, o4, o5, o6⟩ := ok
    have h0 : A 198 0 = 0 := by omega
    obtain ⟨u0, u1, u2, u3, u4, u5, u6⟩ := un_all h h0
    have o := fun c (h1 : c ≠ 161) (h2 : c ≠ 3) (h3 : c ≠ 4) (h4 : c ≠ 2) (h5 : c ≠ 12) => rowA_o (A := A) (s := s) (p := p) h1 h2 h3 h4 h5
    have e190 := o 190 (by decide) (by decide) (by decide) (by decide) (by decide)
    have e198 := o 198 (by decide) (by decide) (by decide) (by decide) (by decide)
    refine ⟨_, rowA A s p, aU (aU (aU (aU (rowA A s p) 185 0 0) 191 (A 190 0) s) 192 (A 190 0) p) 190 0 (A 190 0 + 1), G, fun P => c_13 (by omega) ok', fun P => ?_, ?_⟩
    · rw [m_123 (by omega) ⟨o1, o2, o3, o4, by rw [e198]; exact h0, by rw [e190]; omega⟩, e190, r1]
    · generalize hA2 : aU (aU (aU (aU (rowA A s p) 185 0 0) 191 (A 190 0) s) 192 (A 190 0) p) 190 0 (A 190 0 + 1) = A2
      have q : ∀ c, c ≠ 161 → c ≠ 3 → c ≠ 4 → c ≠ 2 → c ≠ 12 → c ≠ 185 → c ≠ 190 → c ≠ 191 → c ≠ 192 → A2 c = A c := fun c h1 h2 h3 h4 h5 h6 h7 h8 h9 => by
        rw [← hA2, aU_aF, aU_aF, aU_aF, aF_nf h7, aF_nf h9, aF_nf h8, zA h6, o c h1 h2 h3 h4 h5]
      have q190 : A2 190 0 = A 190 0 + 1 := by rw [← hA2, aU_eq]
      have q190i : ∀ i, i ≠ 0 → A2 190 i = A 190 i := fun i hi => by
        rw [← hA2, aU_ne2 hi, aU_ne (by decide), aU_ne (by decide), aU_ne (by decide), e190]
      have q191 : ∀ i, A2 191 i = if i = A 190 0 then s else A 191 i := fun i => by
        rw [← hA2, aU_ne (by decide), aU_ne (by decide)]
        by_cases z : i = A 190 0
        · rw [if_pos z, z, aU_eq]
        · rw [if_neg z, aU_ne2 z, aU_ne (by decide), o 191 (by decide) (by decide) (by decide) (by decide) (by decide)]
      have q192 : ∀ i, A2 192 i = if i = A 190 0 then p else A 192 i := fun i => by
        rw [← hA2, aU_ne (by decide)]
        by_cases z : i = A 190 0
        · rw [if_pos z, z, aU_eq]
        · rw [if_neg z, aU_ne2 z, aU_ne (by decide), aU_ne (by decide), o 192 (by decide) (by decide) (by decide) (by decide) (by decide)]
      have cl : ∀ c, c < 185 → A2 c = rowA A s p c := fun c hc => by
        rw [← hA2, aU_aF, aU_aF, aU_aF, aF_nf (by omega), aF_nf (by omega), aF_nf (by omega), zA (by omega)]
      have q2 : A2 2 0 = A 190 0 + 1 := by
        rw [cl 2 (by omega)]
        unfold rowA
        rw [aU_ne (by decide), aU_eq, r1]
      have q3 : ∀ i, A2 3 i = if i = A 190 0 then s else A 3 i := fun i => by
        rw [cl 3 (by omega)]
        unfold rowA
        rw [aU_ne (by decide), aU_ne (by decide), aU_ne (by decide), ← r1]
        by_cases z : i = A 2 0
        · rw [if_pos z, z, aU_eq]
        · rw [if_neg z, aU_ne2 z, aU_ne (by decide)]
      have q4 : ∀ i, A2 4 i = if i = A 190 0 then p else A 4 i := fun i => by
        rw [cl 4 (by omega)]
        unfold rowA
        rw [aU_ne (by decide), aU_ne (by decide), ← r1]
        by_cases z : i = A 2 0
        · rw [if_pos z, z, aU_eq]
        · rw [if_neg z, aU_ne2 z, aU_ne (by decide), aU_ne (by decide)]
      have q12 : ∀ i, A2 12 i = if i = A 190 0 then 1 <<< s - 1 else A 12 i := fun i => by
        rw [cl 12 (by omega)]
        unfold rowA
        rw [← r1]
        by_cases z : i = A 2 0
        · rw [if_pos z, z, aU_eq]
        · rw [if_neg z, aU_ne2 z, aU_ne (by decide), aU_ne (by decide), aU_ne (by decide), aU_ne (by decide)]
      have q161 : A2 161 0 = 0 := by
        rw [cl 161 (by omega)]
        unfold rowA
        rw [aU_ne (by decide), aU_ne (by decide), aU_ne (by decide), aU_ne (by decide), aU_eq]
      clear hA2 cl
      have hR : rlR A2 1 0 := by
        have key : A2 2 0 = A2 190 0 ∧ A2 190 0 ≤ 6 ∧ ∀ r, r < A2 190 0 → A2 3 r = A2 191 r ∧ A2 4 r = A2 192 r ∧ 1 ≤ A2 191 r ∧ A2 191 r ≤ 12 ∧ A2 192 r ≤ 999 := by
          rw [q190, q2]
          refine ⟨rfl, by omega, fun r hr => ?_⟩
          rw [q3, q4, q191, q192]
          by_cases z : r = A 190 0
          · simp only [z, if_true]
            exact ⟨trivial, trivial, o1, o2, o4⟩
          · simp only [z, if_false]
            exact r3 r (by omega)
        exact key
      obtain ⟨p1, p2, p3, p4, p5, p6⟩ := h.1
      refine Inv_fr h (fun c h1 h2 => q c (by omega) (by omega) (by omega) (by omega) (by omega) (by omega) (by omega) (by omega) (by omega)) (q 220 (by omega) (by omega) (by omega) (by omega) (by omega) (by omega) (by omega) (by omega) (by omega)) (fun c h1 h2 i h3 h4 => ?_) ⟨by omega, fun z => by omega⟩ ⟨hR, rlK_cg (fun j h1 h2 i hi => by rw [q (1 + j) (by omega) (by omega) (by omega) (by omega) (by omega) (by omega) (by omega) (by omega) (by omega)]) (fun c h1 h2 i hi => by rw [q c (by omega) (by omega) (by omega) (by omega) (by omega) (by omega) (by omega) (by omega) (by omega)]) p2, ?_, rlT_cg (fun j h1 h2 i hi => by rw [q (1 + j) (by omega) (by omega) (by omega) (by omega) (by omega) (by omega) (by omega) (by omega) (by omega)]) (fun c h1 h2 i hi => by rw [q c (by omega) (by omega) (by omega) (by omega) (by omega) (by omega) (by omega) (by omega) (by omega)]) p4, rlP_cg (fun j h1 h2 i hi => by rw [q (1 + j) (by omega) (by omega) (by omega) (by omega) (by omega) (by omega) (by omega) (by omega) (by omega)]) (fun c h1 h2 i hi => by rw [q c (by omega) (by omega) (by omega) (by omega) (by omega) (by omega) (by omega) (by omega) (by omega)]) p5, rlF_cg (fun i hi => by rw [q (1 + 0) (by omega) (by omega) (by omega) (by omega) (by omega) (by omega) (by omega) (by omega) (by omega)]) (fun c h1 h2 i hi => by rw [q c (by omega) (by omega) (by omega) (by omega) (by omega) (by omega) (by omega) (by omega) (by omega)]) p6⟩
      · by_cases z1 : c = 190
        · subst z1
          exact q190i i (by have : nM 190 = 1 := by decide
                            omega)
        · by_cases z2 : c = 191
          · subst z2
            rw [q191, if_neg (by have : nM 191 = 6 := by decide
                                 omega)]
          · by_cases z3 : c = 192
            · subst z3
              rw [q192, if_neg (by have : nM 192 = 6 := by decide
                                   omega)]
            · rw [q c (by omega) (by omega) (by omega) (by omega) (by omega) (by omega) (by omega) (by omega) (by omega)]
      · have w : ∀ c, c ≠ 161 → c ≠ 3 → c ≠ 4 → c ≠ 2 → c ≠ 12 → c ≠ 185 → c ≠ 190 → c ≠ 191 → c ≠ 192 → A2 c = A c := q
        have w10 := q 10 (by omega) (by omega) (by omega) (by omega) (by omega) (by omega) (by omega) (by omega) (by omega)
        have w198 := q 198 (by omega) (by omega) (by omega) (by omega) (by omega) (by omega) (by omega) (by omega) (by omega)
        have w199 := q 199 (by omega) (by omega) (by omega) (by omega) (by omega) (by omega) (by omega) (by omega) (by omega)
        have w202 := q 202 (by omega) (by omega) (by omega) (by omega) (by omega) (by omega) (by omega) (by omega) (by omega)
        refine rlH_un ⟨by rw [q190]; omega, fun r hr => (hR.2.2 r hr).2.2.2.1⟩ (by rw [w10]; exact u0) (by rw [w198]; exact h0) (by rw [w10, w199]; exact h1.2.2.1) (by rw [w199]; exact h1.2.2.2.1) (by rw [w10]; exact u2) (by rw [w202]; exact u1) ?_ ?_ ?_ ?_
        · rw [q 14 (by omega) (by omega) (by omega) (by omega) (by omega) (by omega) (by omega) (by omega) (by omega), q 15 (by omega) (by omega) (by omega) (by omega) (by omega) (by omega) (by omega) (by omega) (by omega), q 16 (by omega) (by omega) (by omega) (by omega) (by omega) (by omega) (by omega) (by omega) (by omega), q 212 (by omega) (by omega) (by omega) (by omega) (by omega) (by omega) (by omega) (by omega) (by omega), q 200 (by omega) (by omega) (by omega) (by omega) (by omega) (by omega) (by omega) (by omega) (by omega), q 201 (by omega) (by omega) (by omega) (by omega) (by omega) (by omega) (by omega) (by omega) (by omega)]
          exact u3
        · rw [q 211 (by omega) (by omega) (by omega) (by omega) (by omega) (by omega) (by omega) (by omega) (by omega), q 204 (by omega) (by omega) (by omega) (by omega) (by omega) (by omega) (by omega) (by omega) (by omega)]
          exact u4
        · rw [q 13 (by omega) (by omega) (by omega) (by omega) (by omega) (by omega) (by omega) (by omega) (by omega)]
          exact u5
        · rw [q190]
          intro r hr
          rw [q12, q191]
          by_cases z : r = A 190 0
          · simp only [z, if_true]
          · simp only [z, if_false]
            exact u6 r (by omega)
  · refine ⟨_, A, aU A 185 0 0, G, fun P => c_13n (by omega) hs hp (by omega) (by omega) ok, fun P => ?_, Inv_185 h⟩
    rw [m_123n (by omega) hs hp (by omega) r2 (fun z => ok (by unfold okRow; unfold okRowM at z; omega))]
end

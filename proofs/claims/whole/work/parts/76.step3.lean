set_option maxRecDepth 20000
set_option maxHeartbeats 4000000
/-! STEPS: ask, days, end, feed -/
section
variable {X : mX} {D : Nat} {G : mG} {A : Nat → Nat → Nat}
theorem st_1 {s m k t : Nat} (hD : 20 ≤ D) (h : Inv A) (hs : s < 4294967296) (hm : m < 4294967296) (hk : k < 4294967296) (ht : t ≤ 1) : tdStp X D G A 16 [.ref 0, .int (tN s), .int (tN m), .int (tN k), .int (tN t)] 125 [.ref 185, .int (tN s), .int (tN m), .int (tN k), .int (tN t)] := by
  obtain ⟨r1, r2, r3⟩ := nR h
  obtain ⟨k1, k2, k3⟩ := nK h
  obtain ⟨h1, -⟩ := nH h
  by_cases ok : okAsk A s m k
  · have ok' := ok
    obtain ⟨o1, o2, o3, o4, o5, o6⟩ := ok
    have h0 : A 198 0 = 0 := by omega
    obtain ⟨u0, u1, u2, u3, u4, u5, u6⟩ := un_all h h0
    have cA : ∀ c, c ≠ 161 → c ≠ 6 → c ≠ 7 → c ≠ 8 → c ≠ 9 → c ≠ 5 → askA A s m k t c = A c := fun c h1 h2 h3 h4 h5 h6 => by
      unfold askA
      rw [aU_aF, aU_aF, aU_aF, aU_aF, aU_aF, aU_aF, aF_nf h6, aF_nf h5, aF_nf h4, aF_nf h3, aF_nf h2, aF_nf h1]
    have e193 := cA 193 (by decide) (by decide) (by decide) (by decide) (by decide) (by decide)
    have e198 := cA 198 (by decide) (by decide) (by decide) (by decide) (by decide) (by decide)
    refine ⟨_, askA A s m k t, askM (askA A s m k t) s m k t, G, fun P => c_16 (by omega) ht ok', fun P => ?_, ?_⟩
    · rw [m_125 (by omega) ht ⟨o1, o2, o3, o4, by rw [e198]; exact h0, by rw [e193]; omega⟩, e193, k1]
    · generalize hA2 : askM (askA A s m k t) s m k t = A2
      have cM : ∀ c, c ≠ 185 → c ≠ 194 → c ≠ 195 → c ≠ 196 → c ≠ 197 → c ≠ 200 → c ≠ 201 → c ≠ 212 → c ≠ 193 → A2 c = askA A s m k t c := fun c h1 h2 h3 h4 h5 h6 h7 h8 h9 => by
        rw [← hA2]
        unfold askM
        rw [aU_aF, aU_aF, aU_aF, aU_aF, aU_aF, aU_aF, aU_aF, aU_aF, aF_nf h9, aF_nf h8, aF_nf h7, aF_nf h6, aF_nf h5, aF_nf h4, aF_nf h3, aF_nf h2, zA h1]
      have q : ∀ c, c ≠ 161 → c ≠ 6 → c ≠ 7 → c ≠ 8 → c ≠ 9 → c ≠ 5 → c ≠ 185 → (c < 193 ∨ 197 < c) → c ≠ 200 → c ≠ 201 → c ≠ 212 → A2 c = A c := fun c h1 h2 h3 h4 h5 h6 h7 h8 h9 h10 h11 => by
        rw [cM c h7 (by omega) (by omega) (by omega) (by omega) h9 h10 h11 (by omega), cA c h1 h2 h3 h4 h5 h6]
      have q193 : A2 193 0 = A 193 0 + 1 := by
        rw [← hA2]
        unfold askM
        rw [aU_eq, e193]
      have q193i : ∀ i, i ≠ 0 → A2 193 i = A 193 i := fun i hi => by
        rw [← hA2]
        unfold askM
        rw [aU_ne2 hi, aU_ne (by decide), aU_ne (by decide), aU_ne (by decide), aU_ne (by decide), aU_ne (by decide), aU_ne (by decide), aU_ne (by decide), aU_ne (by decide), e193]
      have q194 : ∀ i, A2 194 i = if i = A 193 0 then s else A 194 i := fun i => by
        rw [← hA2]
        unfold askM
        rw [e193, aU_ne (by decide), aU_ne (by decide), aU_ne (by decide), aU_ne (by decide), aU_ne (by decide), aU_ne (by decide), aU_ne (by decide)]
        by_cases z : i = A 193 0
        · rw [if_pos z, z, aU_eq]
        · rw [if_neg z, aU_ne2 z, aU_ne (by decide), cA 194 (by decide) (by decide) (by decide) (by decide) (by decide) (by decide)]
      have q195 : ∀ i, A2 195 i = if i = A 193 0 then m else A 195 i := fun i => by
        rw [← hA2]
        unfold askM
        rw [e193, aU_ne (by decide), aU_ne (by decide), aU_ne (by decide), aU_ne (by decide), aU_ne (by decide), aU_ne (by decide)]
        by_cases z : i = A 193 0
        · rw [if_pos z, z, aU_eq]
        · rw [if_neg z, aU_ne2 z, aU_ne (by decide), aU_ne (by decide), cA 195 (by decide) (by decide) (by decide) (by decide) (by decide) (by decide)]
      have q196 : ∀ i, A2 196 i = if i = A 193 0 then k else A 196 i := fun i => by
        rw [← hA2]
        unfold askM
        rw [e193, aU_ne (by decide), aU_ne (by decide), aU_ne (by decide), aU_ne (by decide), aU_ne (by decide)]
        by_cases z : i = A 193 0
        · rw [if_pos z, z, aU_eq]
        · rw [if_neg z, aU_ne2 z, aU_ne (by decide), aU_ne (by decide), aU_ne (by decide), cA 196 (by decide) (by decide) (by decide) (by decide) (by decide) (by decide)]
      have q197 : ∀ i, A2 197 i = if i = A 193 0 then t else A 197 i := fun i => by
        rw [← hA2]
        unfold askM
        rw [e193, aU_ne (by decide), aU_ne (by decide), aU_ne (by decide), aU_ne (by decide)]
        by_cases z : i = A 193 0
        · rw [if_pos z, z, aU_eq]
        · rw [if_neg z, aU_ne2 z, aU_ne (by decide), aU_ne (by decide), aU_ne (by decide), aU_ne (by decide), cA 197 (by decide) (by decide) (by decide) (by decide) (by decide) (by decide)]
      have q200 : ∀ i, A2 200 i = if i = A 193 0 then 0 else A 200 i := fun i => by
        rw [← hA2]
        unfold askM
        rw [e193, aU_ne (by decide), aU_ne (by decide), aU_ne (by decide)]
        by_cases z : i = A 193 0
        · rw [if_pos z, z, aU_eq]
        · rw [if_neg z, aU_ne2 z, aU_ne (by decide), aU_ne (by decide), aU_ne (by decide), aU_ne (by decide), aU_ne (by decide), cA 200 (by decide) (by decide) (by decide) (by decide) (by decide) (by decide)]
      have q201 : ∀ i, A2 201 i = if i = A 193 0 then 0 else A 201 i := fun i => by
        rw [← hA2]
        unfold askM
        rw [e193, aU_ne (by decide), aU_ne (by decide)]
        by_cases z : i = A 193 0
        · rw [if_pos z, z, aU_eq]
        · rw [if_neg z, aU_ne2 z, aU_ne (by decide), aU_ne (by decide), aU_ne (by decide), aU_ne (by decide), aU_ne (by decide), aU_ne (by decide), cA 201 (by decide) (by decide) (by decide) (by decide) (by decide) (by decide)]
      have q212 : ∀ i, A2 212 i = if i = A 193 0 then 0 else A 212 i := fun i => by
        rw [← hA2]
        unfold askM
        rw [e193, aU_ne (by decide)]
        by_cases z : i = A 193 0
        · rw [if_pos z, z, aU_eq]
        · rw [if_neg z, aU_ne2 z, aU_ne (by decide), aU_ne (by decide), aU_ne (by decide), aU_ne (by decide), aU_ne (by decide), aU_ne (by decide), aU_ne (by decide), cA 212 (by decide) (by decide) (by decide) (by decide) (by decide) (by decide)]
      have cl : ∀ c, c < 185 → A2 c = askA A s m k t c := fun c hc => cM c (by omega) (by omega) (by omega) (by omega) (by omega) (by omega) (by omega) (by omega) (by omega)
      have q5 : A2 5 0 = A 193 0 + 1 := by
        rw [cl 5 (by omega)]
        unfold askA
        rw [aU_eq, k1]
      have q6 : ∀ i, A2 6 i = if i = A 193 0 then s else A 6 i := fun i => by
        rw [cl 6 (by omega)]
        unfold askA
        rw [aU_ne (by decide), aU_ne (by decide), aU_ne (by decide), aU_ne (by decide), ← k1]
        by_cases z : i = A 5 0
        · rw [if_pos z, z, aU_eq]
        · rw [if_neg z, aU_ne2 z, aU_ne (by decide)]
      have q7 : ∀ i, A2 7 i = if i = A 193 0 then m else A 7 i := fun i => by
        rw [cl 7 (by omega)]
        unfold askA
        rw [aU_ne (by decide), aU_ne (by decide), aU_ne (by decide), ← k1]
        by_cases z : i = A 5 0
        · rw [if_pos z, z, aU_eq]
        · rw [if_neg z, aU_ne2 z, aU_ne (by decide), aU_ne (by decide)]
      have q8 : ∀ i, A2 8 i = if i = A 193 0 then k else A 8 i := fun i => by
        rw [cl 8 (by omega)]
        unfold askA
        rw [aU_ne (by decide), aU_ne (by decide), ← k1]
        by_cases z : i = A 5 0
        · rw [if_pos z, z, aU_eq]
        · rw [if_neg z, aU_ne2 z, aU_ne (by decide), aU_ne (by decide), aU_ne (by decide)]
      have q9 : ∀ i, A2 9 i = if i = A 193 0 then t else A 9 i := fun i => by
        rw [cl 9 (by omega)]
        unfold askA
        rw [aU_ne (by decide), ← k1]
        by_cases z : i = A 5 0
        · rw [if_pos z, z, aU_eq]
        · rw [if_neg z, aU_ne2 z, aU_ne (by decide), aU_ne (by decide), aU_ne (by decide), aU_ne (by decide)]
      have q161 : A2 161 0 = 0 := by
        rw [cl 161 (by omega)]
        unfold askA
        rw [aU_ne (by decide), aU_ne (by decide), aU_ne (by decide), aU_ne (by decide), aU_ne (by decide), aU_eq]
      clear hA2 cl cM
      have hK : rlK A2 1 0 := by
        have key : A2 5 0 = A2 193 0 ∧ A2 193 0 ≤ 12 ∧ ∀ a, a < A2 193 0 → A2 6 a = A2 194 a ∧ A2 7 a = A2 195 a ∧ A2 8 a = A2 196 a ∧ A2 9 a = A2 197 a ∧ 1 ≤ A2 194 a ∧ A2 194 a ≤ 6 ∧ A2 195 a ≤ 999 ∧ A2 196 a ≤ 999 ∧ A2 197 a ≤ 1 := by
          rw [q193, q5]
          refine ⟨rfl, by omega, fun r hr => ?_⟩
          rw [q6, q7, q8, q9, q194, q195, q196, q197]
          by_cases z : r = A 193 0
          · simp only [z, if_true]
            exact ⟨trivial, trivial, trivial, trivial, o1, o2, o3, o4, ht⟩
          · simp only [z, if_false]
            exact k3 r (by omega)
        exact key
      obtain ⟨p1, p2, p3, p4, p5, p6⟩ := h.1
      refine Inv_fr h (fun c h1 h2 => q c (by omega) (by omega) (by omega) (by omega) (by omega) (by omega) (by omega) (by omega) (by omega) (by omega) (by omega)) (q 220 (by omega) (by omega) (by omega) (by omega) (by omega) (by omega) (by omega) (by omega) (by omega) (by omega) (by omega)) (fun c h1 h2 i h3 h4 => ?_) ⟨by omega, fun z => by omega⟩ ⟨rlR_cg (fun j h1 h2 i hi => by rw [q (1 + j) (by omega) (by omega) (by omega) (by omega) (by omega) (by omega) (by omega) (by omega) (by omega) (by omega) (by omega)]) (fun c h1 h2 i hi => by rw [q c (by omega) (by omega) (by omega) (by omega) (by omega) (by omega) (by omega) (by omega) (by omega) (by omega) (by omega)]) p1, hK, ?_, rlT_cg (fun j h1 h2 i hi => by rw [q (1 + j) (by omega) (by omega) (by omega) (by omega) (by omega) (by omega) (by omega) (by omega) (by omega) (by omega) (by omega)]) (fun c h1 h2 i hi => by rw [q c (by omega) (by omega) (by omega) (by omega) (by omega) (by omega) (by omega) (by omega) (by omega) (by omega) (by omega)]) p4, rlP_cg (fun j h1 h2 i hi => by rw [q (1 + j) (by omega) (by omega) (by omega) (by omega) (by omega) (by omega) (by omega) (by omega) (by omega) (by omega) (by omega)]) (fun c h1 h2 i hi => by rw [q c (by omega) (by omega) (by omega) (by omega) (by omega) (by omega) (by omega) (by omega) (by omega) (by omega) (by omega)]) p5, rlF_cg (fun i hi => by rw [q (1 + 0) (by omega) (by omega) (by omega) (by omega) (by omega) (by omega) (by omega) (by omega) (by omega) (by omega) (by omega)]) (fun c h1 h2 i hi => by rw [q c (by omega) (by omega) (by omega) (by omega) (by omega) (by omega) (by omega) (by omega) (by omega) (by omega) (by omega)]) p6⟩
      · by_cases z : c = 193
        · subst z
          exact q193i i (by have : nM 193 = 1 := by decide
                            omega)
        · by_cases z1 : c = 194
          · subst z1
            rw [q194, if_neg (by have : nM 194 = 12 := by decide
                                 omega)]
          · by_cases z2 : c = 195
            · subst z2
              rw [q195, if_neg (by have : nM 195 = 12 := by decide
                                   omega)]
            · by_cases z3 : c = 196
              · subst z3
                rw [q196, if_neg (by have : nM 196 = 12 := by decide
                                     omega)]
              · by_cases z4 : c = 197
                · subst z4
                  rw [q197, if_neg (by have : nM 197 = 12 := by decide
                                       omega)]
                · by_cases z5 : c = 200
                  · subst z5
                    rw [q200, if_neg (by have : nM 200 = 12 := by decide
                                         omega)]
                  · by_cases z6 : c = 201
                    · subst z6
                      rw [q201, if_neg (by have : nM 201 = 12 := by decide
                                           omega)]
                    · by_cases z7 : c = 212
                      · subst z7
                        rw [q212, if_neg (by have : nM 212 = 12 := by decide
                                             omega)]
                      · rw [q c (by omega) (by omega) (by omega) (by omega) (by omega) (by omega) (by omega) (by omega) (by omega) (by omega) (by omega)]
      · have w10 := q 10 (by omega) (by omega) (by omega) (by omega) (by omega) (by omega) (by omega) (by omega) (by omega) (by omega) (by omega)
        have w198 := q 198 (by omega) (by omega) (by omega) (by omega) (by omega) (by omega) (by omega) (by omega) (by omega) (by omega) (by omega)
        have w199 := q 199 (by omega) (by omega) (by omega) (by omega) (by omega) (by omega) (by omega) (by omega) (by omega) (by omega) (by omega)
        have w202 := q 202 (by omega) (by omega) (by omega) (by omega) (by omega) (by omega) (by omega) (by omega) (by omega) (by omega) (by omega)
        have w190 := q 190 (by omega) (by omega) (by omega) (by omega) (by omega) (by omega) (by omega) (by omega) (by omega) (by omega) (by omega)
        have w191 := q 191 (by omega) (by omega) (by omega) (by omega) (by omega) (by omega) (by omega) (by omega) (by omega) (by omega) (by omega)
        refine rlH_un ⟨by rw [w190]; exact r2, fun r hr => by rw [w190] at hr; rw [w191]; exact (r3 r hr).2.2.2.1⟩ (by rw [w10]; exact u0) (by rw [w198]; exact h0) (by rw [w10, w199]; exact h1.2.2.1) (by rw [w199]; exact h1.2.2.2.1) (by rw [w10]; exact u2) (by rw [w202]; exact u1) ?_ ?_ ?_ ?_
        · intro a ha
          obtain ⟨v1, v2, v3, v4, v5, v6⟩ := u3 a ha
          rw [q 14 (by omega) (by omega) (by omega) (by omega) (by omega) (by omega) (by omega) (by omega) (by omega) (by omega) (by omega), q 15 (by omega) (by omega) (by omega) (by omega) (by omega) (by omega) (by omega) (by omega) (by omega) (by omega) (by omega), q 16 (by omega) (by omega) (by omega) (by omega) (by omega) (by omega) (by omega) (by omega) (by omega) (by omega) (by omega), q212, q200, q201]
          refine ⟨v1, v2, v3, ?_, ?_, ?_⟩
          · split
            · rfl
            · exact v4
          · split
            · rfl
            · exact v5
          · split
            · rfl
            · exact v6
        · rw [q 211 (by omega) (by omega) (by omega) (by omega) (by omega) (by omega) (by omega) (by omega) (by omega) (by omega) (by omega), q 204 (by omega) (by omega) (by omega) (by omega) (by omega) (by omega) (by omega) (by omega) (by omega) (by omega) (by omega)]
          exact u4
        · rw [q 13 (by omega) (by omega) (by omega) (by omega) (by omega) (by omega) (by omega) (by omega) (by omega) (by omega) (by omega)]
          exact u5
        · rw [w190, w191, q 12 (by omega) (by omega) (by omega) (by omega) (by omega) (by omega) (by omega) (by omega) (by omega) (by omega) (by omega)]
          exact u6
  · refine ⟨_, A, aU A 185 0 0, G, fun P => c_16n (by omega) hs hm hk (by omega) (by omega) ok, fun P => ?_, Inv_185 h⟩
    rw [m_125n (by omega) hs hm hk (by omega) k2 (fun z => ok (by unfold okAsk; unfold okAskM at z; omega))]
theorem rlH_days {A2 : Nat → Nat → Nat} (h : rlH A 1 0) (q : ∀ c, (11 ≤ c ∧ c ≤ 29) ∨ c = 190 ∨ c = 191 ∨ c = 193 ∨ c = 198 ∨ (200 ≤ c ∧ c ≤ 204) ∨ (211 ≤ c ∧ c ≤ 213) → A2 c = A c) (q0 : A2 10 0 = A 10 0) (q2 : A2 10 2 = A 10 2) (q1 : A2 10 1 = A2 199 0) (q3 : A2 199 0 ≤ 30) : rlH A2 1 0 := by
  have h' : (A 10 0 = A 198 0 ∧ A 198 0 ≤ 1 ∧ A 10 1 = A 199 0 ∧ A 199 0 ≤ 30 ∧ A 10 2 = A 202 0 ∧ A 202 0 ≤ 12) ∧ (∀ k, k < A 202 0 → A 11 k = A 203 k ∧ A 203 k < A 193 0 ∧ A 212 (A 203 k) = 0) ∧ (∀ i k, i < k → k < A 202 0 → A 203 i ≠ A 203 k) ∧ (∀ a, a < 12 → A 14 a = A 212 a ∧ A 15 a = A 200 a ∧ A 16 a = A 201 a ∧ (A 193 0 ≤ a → A 212 a = 0)) ∧ (∀ a k, a < 12 → k < A 212 a → A (18 + a) k = A 213 (6 * a + k)) ∧ HI (A 190 0) (A 191) (A 12) (A 212) (fun a k => A 213 (6 * a + k)) (A 211) ∧ (∀ i, i < 72 → (A 211 i = 4294967295 ∨ A 211 i < 12) ∧ A 204 i ≤ 1) ∧ (∀ r, r < 6 → A 13 r < 4096 ∧ (A 190 0 ≤ r → A 13 r = 0) ∧ ∀ j, j < 12 → ((A 13 r).testBit j = true ↔ A 204 (12 * r + j) = 1)) ∧ (A 198 0 = 0 → A 202 0 = 0 ∧ (∀ i, i < 72 → A 211 i = 4294967295 ∧ A 204 i = 0) ∧ (∀ a, a < 12 → A 212 a = 0 ∧ A 200 a = 0 ∧ A 201 a = 0)) := h
  have key : (A2 10 0 = A2 198 0 ∧ A2 198 0 ≤ 1 ∧ A2 10 1 = A2 199 0 ∧ A2 199 0 ≤ 30 ∧ A2 10 2 = A2 202 0 ∧ A2 202 0 ≤ 12) ∧ (∀ k, k < A2 202 0 → A2 11 k = A2 203 k ∧ A2 203 k < A2 193 0 ∧ A2 212 (A2 203 k) = 0) ∧ (∀ i k, i < k → k < A2 202 0 → A2 203 i ≠ A2 203 k) ∧ (∀ a, a < 12 → A2 14 a = A2 212 a ∧ A2 15 a = A2 200 a ∧ A2 16 a = A2 201 a ∧ (A2 193 0 ≤ a → A2 212 a = 0)) ∧ (∀ a k, a < 12 → k < A2 212 a → A2 (18 + a) k = A2 213 (6 * a + k)) ∧ HI (A2 190 0) (A2 191) (A2 12) (A2 212) (fun a k => A2 213 (6 * a + k)) (A2 211) ∧ (∀ i, i < 72 → (A2 211 i = 4294967295 ∨ A2 211 i < 12) ∧ A2 204 i ≤ 1) ∧ (∀ r, r < 6 → A2 13 r < 4096 ∧ (A2 190 0 ≤ r → A2 13 r = 0) ∧ ∀ j, j < 12 → ((A2 13 r).testBit j = true ↔ A2 204 (12 * r + j) = 1)) ∧ (A2 198 0 = 0 → A2 202 0 = 0 ∧ (∀ i, i < 72 → A2 211 i = 4294967295 ∧ A2 204 i = 0) ∧ (∀ a, a < 12 → A2 212 a = 0 ∧ A2 200 a = 0 ∧ A2 201 a = 0)) := by
    rw [q 11 (by omega), q 12 (by omega), q 13 (by omega), q 14 (by omega), q 15 (by omega), q 16 (by omega), q 190 (by omega), q 191 (by omega), q 193 (by omega), q 198 (by omega), q 200 (by omega), q 201 (by omega), q 202 (by omega), q 203 (by omega), q 204 (by omega), q 211 (by omega), q 212 (by omega), q 213 (by omega), q0, q2]
    obtain ⟨h1, h2, h3, h4, h5, h6, h7, h8, h9⟩ := h'
    exact ⟨⟨h1.1, h1.2.1, q1, q3, h1.2.2.2.2.1, h1.2.2.2.2.2⟩, h2, h3, h4, fun a k ha hk => by rw [q (18 + a) (by omega)]; exact h5 a k ha hk, h6, h7, h8, h9⟩
  exact key
theorem st_9 {x : Nat} (hD : 20 ≤ D) (h : Inv A) (hx : x < 4294967296) : tdStp X D G A 49 [.ref 0, .int (tN x)] 149 [.ref 185, .int (tN x)] := by
  obtain ⟨h1, -⟩ := nH h
  by_cases c : x ≤ A 10 1
  · have e199 : aU A 10 1 x 199 = A 199 := by rw [aU_aF, aF_nf (by decide)]
    refine ⟨_, aU A 10 1 x, aU (aU (aU A 10 1 x) 185 0 0) 199 0 x, G, fun P => by rw [c_49 (by omega) hx (by omega), if_pos c], fun P => by rw [m_149 (by omega) hx (by rw [e199]; exact h1.2.2.2.1), if_pos (by rw [e199]; omega)], ?_⟩
    generalize hA2 : aU (aU (aU A 10 1 x) 185 0 0) 199 0 x = A2
    have q : ∀ c, c ≠ 10 → c ≠ 185 → c ≠ 199 → A2 c = A c := fun c h1 h2 h3 => by
      rw [← hA2, aU_aF, aF_nf h3, zA h2, aU_aF, aF_nf h1]
    have q0 : ∀ i, i ≠ 1 → A2 10 i = A 10 i := fun i hi => by
      rw [← hA2, aU_ne (by decide), aU_ne (by decide), aU_ne2 hi]
    have q1 : A2 10 1 = x := by rw [← hA2, aU_ne (by decide), aU_ne (by decide), aU_eq]
    have q2 : A2 199 0 = x := by rw [← hA2, aU_eq]
    have q3 : ∀ i, i ≠ 0 → A2 199 i = A 199 i := fun i hi => by
      rw [← hA2, aU_ne2 hi, aU_ne (by decide), e199]
    clear hA2
    obtain ⟨p1, p2, p3, p4, p5, p6⟩ := h.1
    refine Inv_fr h (fun c h1 h2 => q c (by omega) (by omega) (by omega)) (q 220 (by omega) (by omega) (by omega)) (fun c h1 h2 i h3 h4 => ?_) (ShOK_cg (fun c h1 h2 => q c (by omega) (by omega) (by omega)) (q 161 (by omega) (by omega) (by omega)) (q 162 (by omega) (by omega) (by omega)) (Inv_sh h)) ⟨rlR_cg (fun j h1 h2 i hi => by rw [q (1 + j) (by omega) (by omega) (by omega)]) (fun c h1 h2 i hi => by rw [q c (by omega) (by omega) (by omega)]) p1, rlK_cg (fun j h1 h2 i hi => by rw [q (1 + j) (by omega) (by omega) (by omega)]) (fun c h1 h2 i hi => by rw [q c (by omega) (by omega) (by omega)]) p2, rlH_days p3 (fun c hc => q c (by omega) (by omega) (by omega)) (q0 0 (by decide)) (q0 2 (by decide)) (by rw [q1, q2]) (by rw [q2]; omega), rlT_cg (fun j h1 h2 i hi => by rw [q (1 + j) (by omega) (by omega) (by omega)]) (fun c h1 h2 i hi => by rw [q c (by omega) (by omega) (by omega)]) p4, rlP_cg (fun j h1 h2 i hi => by rw [q (1 + j) (by omega) (by omega) (by omega)]) (fun c h1 h2 i hi => by rw [q c (by omega) (by omega) (by omega)]) p5, rlF_cg (fun i hi => by rw [q (1 + 0) (by omega) (by omega) (by omega)]) (fun c h1 h2 i hi => by rw [q c (by omega) (by omega) (by omega)]) p6⟩
    by_cases z : c = 199
    · subst z
      exact q3 i (by have : nM 199 = 1 := by decide
                     omega)
    · rw [q c (by omega) (by omega) z]
  · refine ⟨_, A, aU A 185 0 0, G, fun P => by rw [c_49 (by omega) hx (by omega), if_neg c], fun P => by rw [m_149 (by omega) hx h1.2.2.2.1, if_neg (by omega)], Inv_185 h⟩
/-- only the tape has changed -/
theorem Inv_tape {A2 : Nat → Nat → Nat} (h : Inv A) (q : ∀ c, c ≠ 38 → c ≠ 39 → c ≠ 185 → c ≠ 186 → c ≠ 187 → A2 c = A c) (q1 : A2 38 0 = A2 187 0) (q2 : A2 187 0 ≤ 300) (q3 : ∀ i, i < A2 187 0 → A2 39 i < 256 ∧ A2 186 i = sb (A2 39 i)) (q4 : ∀ i, 300 ≤ i → A2 186 i = A 186 i) (q5 : ∀ i, i ≠ 0 → A2 187 i = A 187 i) : Inv A2 := by
  obtain ⟨p1, p2, p3, p4, p5, p6⟩ := h.1
  refine Inv_fr h (fun c h1 h2 => q c (by omega) (by omega) (by omega) (by omega) (by omega)) (q 220 (by omega) (by omega) (by omega) (by omega) (by omega)) (fun c h1 h2 i h3 h4 => ?_) (ShOK_cg (fun c h1 h2 => q c (by omega) (by omega) (by omega) (by omega) (by omega)) (q 161 (by omega) (by omega) (by omega) (by omega) (by omega)) (q 162 (by omega) (by omega) (by omega) (by omega) (by omega)) (Inv_sh h)) ⟨rlR_cg (fun j h1 h2 i hi => by rw [q (1 + j) (by omega) (by omega) (by omega) (by omega) (by omega)]) (fun c h1 h2 i hi => by rw [q c (by omega) (by omega) (by omega) (by omega) (by omega)]) p1, rlK_cg (fun j h1 h2 i hi => by rw [q (1 + j) (by omega) (by omega) (by omega) (by omega) (by omega)]) (fun c h1 h2 i hi => by rw [q c (by omega) (by omega) (by omega) (by omega) (by omega)]) p2, rlH_cg ⟨(nR h).2.1, fun r hr => ((nR h).2.2 r hr).2.2.2.1⟩ (nK h).2.1 (fun j h1 h2 i hi => by rw [q (1 + j) (by omega) (by omega) (by omega) (by omega) (by omega)]) (fun c h1 i hi => by rw [q c (by omega) (by omega) (by omega) (by omega) (by omega)]) p3, rlT_cg (fun j h1 h2 i hi => by rw [q (1 + j) (by omega) (by omega) (by omega) (by omega) (by omega)]) (fun c h1 h2 i hi => by rw [q c (by omega) (by omega) (by omega) (by omega) (by omega)]) p4, ⟨q1, q2, q3⟩, rlF_cg (fun i hi => by rw [q (1 + 0) (by omega) (by omega) (by omega) (by omega) (by omega)]) (fun c h1 h2 i hi => by rw [q c (by omega) (by omega) (by omega) (by omega) (by omega)]) p6⟩
  by_cases z : c = 186
  · subst z
    exact q4 i (by have : nM 186 = 300 := by decide
                   omega)
  · by_cases z2 : c = 187
    · subst z2
      exact q5 i (by have : nM 187 = 1 := by decide
                     omega)
    · rw [q c (by omega) (by omega) (by omega) z z2]
theorem st_11 {x : Nat} (hD : 20 ≤ D) (h : Inv A) (hx : x < 4294967296) : tdStp X D G A 53 [.ref 0, .int (tN x)] 152 [.ref 185, .int (tN x)] := by
  obtain ⟨t1, t2, t3⟩ := nP h
  by_cases c : x ≤ A 38 0
  · have e187 : aU A 38 0 x 187 = A 187 := by rw [aU_aF, aF_nf (by decide)]
    refine ⟨_, aU A 38 0 x, aU (aU (aU A 38 0 x) 185 0 0) 187 0 x, G, fun P => by rw [c_53 (by omega) hx (by omega), if_pos c], fun P => by rw [m_152 (by omega) hx (by rw [e187]; exact t2), if_pos (by rw [e187]; omega)], ?_⟩
    have q : ∀ c, c ≠ 38 → c ≠ 185 → c ≠ 187 → aU (aU (aU A 38 0 x) 185 0 0) 187 0 x c = A c := fun c h1 h2 h3 => by
      rw [aU_aF, aF_nf h3, zA h2, aU_aF, aF_nf h1]
    have q1 : aU (aU (aU A 38 0 x) 185 0 0) 187 0 x 187 0 = x := aU_eq
    refine Inv_tape h (fun c h1 h2 h3 h4 h5 => q c h1 h3 h5) ?_ (by rw [q1]; omega) ?_ (fun i _ => by rw [q 186 (by decide) (by decide) (by decide)]) (fun i hi => ?_)
    · rw [q1, aU_ne (by decide), aU_ne (by decide), aU_eq]
    · rw [q1, q 39 (by decide) (by decide) (by decide), q 186 (by decide) (by decide) (by decide)]
      exact fun i hi => t3 i (by omega)
    · rw [aU_ne2 hi, aU_ne (by decide), e187]
  · refine ⟨_, A, aU A 185 0 0, G, fun P => by rw [c_53 (by omega) hx (by omega), if_neg c], fun P => by rw [m_152 (by omega) hx t2, if_neg (by omega)], Inv_185 h⟩
theorem tp_ok {c m : Nat → Nat} {L v : Nat} (h : ∀ i, i < L → c i < 256 ∧ m i = sb (c i)) : ∀ i, i < L + 4 → tpB c L v i < 256 ∧ tpM m L v i = sb (tpB c L v i) := by
  intro i hi
  unfold tpB tpM
  by_cases e3 : i = L + 3
  · rw [if_pos e3, if_pos e3]
    exact ⟨Nat.mod_lt _ (by decide), rfl⟩
  · rw [if_neg e3, if_neg e3]
    by_cases e2 : i = L + 2
    · rw [if_pos e2, if_pos e2]
      exact ⟨Nat.mod_lt _ (by decide), rfl⟩
    · rw [if_neg e2, if_neg e2]
      by_cases e1 : i = L + 1
      · rw [if_pos e1, if_pos e1]
        exact ⟨Nat.mod_lt _ (by decide), rfl⟩
      · rw [if_neg e1, if_neg e1]
        by_cases e0 : i = L
        · rw [if_pos e0, if_pos e0]
          exact ⟨Nat.mod_lt _ (by decide), rfl⟩
        · rw [if_neg e0, if_neg e0]
          exact h i (by omega)
theorem tpM_hi {m : Nat → Nat} {L v i : Nat} (h : L + 4 ≤ i) : tpM m L v i = m i := by
  unfold tpM
  rw [if_neg (by omega), if_neg (by omega), if_neg (by omega), if_neg (by omega)]
theorem fdC_o {v c : Nat} (h1 : c ≠ 38) (h2 : c ≠ 39) : fdC A v c = A c := by
  unfold fdC
  rw [aF_nf h2, aU_aF, aF_nf h1]
theorem fdC_39 {v : Nat} : fdC A v 39 = tpB (A 39) (A 38 0) v := by
  unfold fdC
  rw [aF_ef]
theorem fdA_o {v c : Nat} (h1 : c ≠ 186) (h2 : c ≠ 187) : fdA A v c = A c := by
  unfold fdA
  rw [aF_nf h1, aU_aF, aF_nf h2]
theorem fdA_186 {v : Nat} : fdA A v 186 = tpM (A 186) (A 187 0) v := by
  unfold fdA
  rw [aF_ef]
theorem fdA_i {v i : Nat} (h : i ≠ 0) : fdA A v 187 i = A 187 i := by
  unfold fdA
  rw [aF_nf (by decide), aU_ne2 h]
theorem st_10 {a b c d e : Nat} (hD : 20 ≤ D) (h : Inv A) : tdStp X D G A 50 [.ref 0, .int (tN a), .int (tN b), .int (tN c), .int (tN d), .int (tN e)] 150 [.ref 185, .int (tN a), .int (tN b), .int (tN c), .int (tN d), .int (tN e)] := by
  obtain ⟨t1, t2, t3⟩ := nP h
  by_cases k : A 38 0 ≤ 280
  · have z1 : fdC A a 38 0 = A 38 0 + 4 := fdC_0
    have z2 : fdC (fdC A a) b 38 0 = A 38 0 + 8 := by rw [fdC_0, z1]
    have z3 : fdC (fdC (fdC A a) b) c 38 0 = A 38 0 + 12 := by rw [fdC_0, z2]
    have z4 : fdC (fdC (fdC (fdC A a) b) c) d 38 0 = A 38 0 + 16 := by rw [fdC_0, z3]
    have z5 : fdC (fdC (fdC (fdC (fdC A a) b) c) d) e 38 0 = A 38 0 + 20 := by rw [fdC_0, z4]
    have zo : ∀ x, x ≠ 38 → x ≠ 39 → fdC (fdC (fdC (fdC (fdC A a) b) c) d) e x = A x := fun x h1 h2 => by rw [fdC_o h1 h2, fdC_o h1 h2, fdC_o h1 h2, fdC_o h1 h2, fdC_o h1 h2]
    have zt : fdC (fdC (fdC (fdC (fdC A a) b) c) d) e 39 = tpB (tpB (tpB (tpB (tpB (A 39) (A 38 0) a) (A 38 0 + 4) b) (A 38 0 + 8) c) (A 38 0 + 12) d) (A 38 0 + 16) e := by rw [fdC_39, fdC_39, fdC_39, fdC_39, fdC_39, z1, z2, z3, z4]
    refine ⟨_, fdC (fdC (fdC (fdC (fdC A a) b) c) d) e, fdA (fdA (fdA (fdA (fdA (aU (fdC (fdC (fdC (fdC (fdC A a) b) c) d) e) 185 0 0) a) b) c) d) e, G, fun P => c_50 (by omega) k, fun P => ?_, ?_⟩
    · rw [m_150 (by omega) (by rw [zo 187 (by decide) (by decide)]; omega), zo 187 (by decide) (by decide), t1]
    · generalize fdC (fdC (fdC (fdC (fdC A a) b) c) d) e = B at *
      have y0 : aU B 185 0 0 187 0 = A 38 0 := by rw [aU_ne (by decide), zo 187 (by decide) (by decide), t1]
      have y1 : fdA (aU B 185 0 0) a 187 0 = A 38 0 + 4 := by rw [fdA_0, y0]
      have y2 : fdA (fdA (aU B 185 0 0) a) b 187 0 = A 38 0 + 8 := by rw [fdA_0, y1]
      have y3 : fdA (fdA (fdA (aU B 185 0 0) a) b) c 187 0 = A 38 0 + 12 := by rw [fdA_0, y2]
      have y4 : fdA (fdA (fdA (fdA (aU B 185 0 0) a) b) c) d 187 0 = A 38 0 + 16 := by rw [fdA_0, y3]
      have y5 : fdA (fdA (fdA (fdA (fdA (aU B 185 0 0) a) b) c) d) e 187 0 = A 38 0 + 20 := by rw [fdA_0, y4]
      have yo : ∀ x, x ≠ 185 → x ≠ 186 → x ≠ 187 → fdA (fdA (fdA (fdA (fdA (aU B 185 0 0) a) b) c) d) e x = B x := fun x h1 h2 h3 => by rw [fdA_o h2 h3, fdA_o h2 h3, fdA_o h2 h3, fdA_o h2 h3, fdA_o h2 h3, zA h1]
      have yt : fdA (fdA (fdA (fdA (fdA (aU B 185 0 0) a) b) c) d) e 186 = tpM (tpM (tpM (tpM (tpM (A 186) (A 38 0) a) (A 38 0 + 4) b) (A 38 0 + 8) c) (A 38 0 + 12) d) (A 38 0 + 16) e := by rw [fdA_186, fdA_186, fdA_186, fdA_186, fdA_186, y0, y1, y2, y3, y4, zA (by decide), zo 186 (by decide) (by decide)]
      refine Inv_tape h (fun x h1 h2 h3 h4 h5 => by rw [yo x h3 h4 h5, zo x h1 h2]) ?_ (by rw [y5]; omega) ?_ ?_ ?_
      · rw [y5, yo 38 (by decide) (by decide) (by decide), z5]
      · rw [y5, yo 39 (by decide) (by decide) (by decide), zt, yt]
        have s0 : ∀ i, i < A 38 0 → A 39 i < 256 ∧ A 186 i = sb (A 39 i) := fun i hi => t3 i (by omega)
        have s1 := tp_ok (v := a) s0
        have s2 := tp_ok (v := b) s1
        have s3 := tp_ok (v := c) s2
        have s4 := tp_ok (v := d) s3
        exact tp_ok (v := e) s4
      · intro i hi
        rw [yt, tpM_hi (by omega), tpM_hi (by omega), tpM_hi (by omega), tpM_hi (by omega), tpM_hi (by omega)]
      · intro i hi
        rw [fdA_i hi, fdA_i hi, fdA_i hi, fdA_i hi, fdA_i hi, zA (by decide), zo 187 (by decide) (by decide)]
  · refine ⟨_, A, aU A 185 0 0, G, fun P => c_50n (by omega) (by omega) k, fun P => m_150n (by omega) t2 (by omega), Inv_185 h⟩
end

set_option maxRecDepth 20000
set_option maxHeartbeats 4000000
/-! THE INVARIANT after the terms -/
theorem Inv_T {A A2 : Nat → Nat → Nat} (h : Inv A) (hc : ∀ c, (2 ≤ c ∧ c ≤ 29) ∨ (39 ≤ c ∧ c ≤ 171) ∨ c = 186 ∨ (190 ≤ c ∧ c ≤ 204) ∨ (211 ≤ c ∧ c ≤ 214) ∨ c = 220 → A2 c = A c) (hm : ∀ c i, c = 187 ∨ c = 188 ∨ c = 189 ∨ (205 ≤ c ∧ c ≤ 210) → nM c ≤ i → A2 c i = A c i) (ht : rlT A2 1 0) (hp : A2 38 0 = 0 ∧ A2 187 0 = 0) (hF : A2 1 5 = A2 188 0 ∧ A2 1 6 = A2 189 0) : Inv A2 := by
  obtain ⟨h1, h2, h3, h4⟩ := h
  obtain ⟨r1, r2, r3, r4, r5, r6⟩ := h1
  refine ⟨⟨?_, ?_, ?_, ht, ?_, hF⟩, fun k hk => ?_, ?_, fun z x hx => ?_⟩
  · exact rlR_cg (fun j j1 j2 i _ => congrFun (hc (1 + j) (by omega)) i) (fun c c1 c2 i _ => congrFun (hc c (by omega)) _) r1
  · exact rlK_cg (fun j j1 j2 i _ => congrFun (hc (1 + j) (by omega)) i) (fun c c1 c2 i _ => congrFun (hc c (by omega)) _) r2
  · exact rlH_cg ⟨r1.2.1, fun r hr => (r1.2.2 r hr).2.2.2.1⟩ r2.2.1 (fun j j1 j2 i _ => congrFun (hc (1 + j) (by omega)) i) (fun c c1 i _ => congrFun (hc c (by omega)) _) r3
  · refine ⟨?_, ?_, fun i hi => ?_⟩
    · show A2 38 0 = A2 187 0
      rw [hp.1, hp.2]
    · rw [hp.2]; omega
    · rw [hp.2] at hi
      exact absurd hi (by omega)
  · obtain ⟨k1, k2, k3⟩ := h2 k hk
    rw [hc 158 (by omega), hc 220 (by omega)]
    refine ⟨k1, k2, fun z => Rel_cg (fun j hj i _ => congrFun (hc (41 + 39 * k + j) (by omega)) i) (fun c c1 c2 i _ => ?_) (k3 z)⟩
    have big : nM c ≤ i + nM c * (k + 1) := Nat.le_trans (Nat.le_mul_of_pos_right _ (by omega)) (Nat.le_add_left _ _)
    by_cases y : c = 187 ∨ c = 188 ∨ c = 189 ∨ (205 ≤ c ∧ c ≤ 210)
    · exact hm c _ y big
    · exact congrFun (hc c (by omega)) _
  · rw [hc 161 (by omega)]; exact h3
  · rw [hc 161 (by omega)] at z
    rw [hc 162 (by omega), hc 4 (by omega), hc 2 (by omega), hc 6 (by omega), hc 7 (by omega), hc 9 (by omega), hc 5 (by omega), hc 3 (by omega)]
    exact h4 z x hx

set_option maxRecDepth 20000
set_option maxHeartbeats 4000000
/-! THE RELATION of a state of the class (its cells begin at B) and a slot s of the model -/
def rlR (A : Nat → Nat → Nat) (B s : Nat) : Prop := A (B + 1) 0 = A 190 s ∧ A 190 s ≤ 6 ∧ ∀ r, r < A 190 s → A (B + 2) r = A 191 (r + 6 * s) ∧ A (B + 3) r = A 192 (r + 6 * s) ∧ 1 ≤ A 191 (r + 6 * s) ∧ A 191 (r + 6 * s) ≤ 12 ∧ A 192 (r + 6 * s) ≤ 999
def rlK (A : Nat → Nat → Nat) (B s : Nat) : Prop := A (B + 4) 0 = A 193 s ∧ A 193 s ≤ 12 ∧ ∀ a, a < A 193 s → A (B + 5) a = A 194 (a + 12 * s) ∧ A (B + 6) a = A 195 (a + 12 * s) ∧ A (B + 7) a = A 196 (a + 12 * s) ∧ A (B + 8) a = A 197 (a + 12 * s) ∧ 1 ≤ A 194 (a + 12 * s) ∧ A 194 (a + 12 * s) ≤ 6 ∧ A 195 (a + 12 * s) ≤ 999 ∧ A 196 (a + 12 * s) ≤ 999 ∧ A 197 (a + 12 * s) ≤ 1
def rlH (A : Nat → Nat → Nat) (B s : Nat) : Prop :=
  (A (B + 9) 0 = A 198 s ∧ A 198 s ≤ 1 ∧ A (B + 9) 1 = A 199 s ∧ A 199 s ≤ 30 ∧ A (B + 9) 2 = A 202 s ∧ A 202 s ≤ 12) ∧
  (∀ k, k < A 202 s → A (B + 10) k = A 203 (k + 12 * s) ∧ A 203 (k + 12 * s) < A 193 s ∧ A 212 (A 203 (k + 12 * s) + 12 * s) = 0) ∧
  (∀ i k, i < k → k < A 202 s → A 203 (i + 12 * s) ≠ A 203 (k + 12 * s)) ∧
  (∀ a, a < 12 → A (B + 13) a = A 212 (a + 12 * s) ∧ A (B + 14) a = A 200 (a + 12 * s) ∧ A (B + 15) a = A 201 (a + 12 * s) ∧ (A 193 s ≤ a → A 212 (a + 12 * s) = 0)) ∧
  (∀ a k, a < 12 → k < A 212 (a + 12 * s) → A (B + 17 + a) k = A 213 (6 * a + k + 72 * s)) ∧
  HI (A 190 s) (fun r => A 191 (r + 6 * s)) (A (B + 11)) (fun a => A 212 (a + 12 * s)) (fun a k => A 213 (6 * a + k + 72 * s)) (fun i => A 211 (i + 72 * s)) ∧
  (∀ i, i < 72 → (A 211 (i + 72 * s) = 4294967295 ∨ A 211 (i + 72 * s) < 12) ∧ A 204 (i + 72 * s) ≤ 1) ∧
  (∀ r, r < 6 → A (B + 12) r < 4096 ∧ (A 190 s ≤ r → A (B + 12) r = 0) ∧ ∀ j, j < 12 → ((A (B + 12) r).testBit j = true ↔ A 204 (12 * r + j + 72 * s) = 1)) ∧
  (A 198 s = 0 → A 202 s = 0 ∧ (∀ i, i < 72 → A 211 (i + 72 * s) = 4294967295 ∧ A 204 (i + 72 * s) = 0) ∧ (∀ a, a < 12 → A 212 (a + 12 * s) = 0 ∧ A 200 (a + 12 * s) = 0 ∧ A 201 (a + 12 * s) = 0))
def rlT (A : Nat → Nat → Nat) (B s : Nat) : Prop := A (B + 29) 0 = A 205 s ∧ A 205 s ≤ 12 ∧ ∀ l, l < A 205 s → A (B + 30) l = A 210 (l + 12 * s) ∧ A 210 (l + 12 * s) ≤ 100 ∧ A (B + 31) l = A 206 (l + 12 * s) ∧ A 206 (l + 12 * s) ≤ 4 ∧ ∀ i, i < A 206 (l + 12 * s) → A (B + 32) (4 * l + i) < 5 ∧ A (B + 35) (4 * l + i) ≤ 1 ∧ A 207 (4 * l + i + 48 * s) = A (B + 32) (4 * l + i) + 8 * A (B + 35) (4 * l + i) ∧ A (B + 33) (4 * l + i) = A 208 (4 * l + i + 48 * s) ∧ A (B + 34) (4 * l + i) = A 209 (4 * l + i + 48 * s) ∧ A 208 (4 * l + i + 48 * s) < 256 ∧ A 209 (4 * l + i + 48 * s) ≤ 999
def rlP (A : Nat → Nat → Nat) (B s : Nat) : Prop := A (B + 37) 0 = A 187 s ∧ A 187 s ≤ 300 ∧ ∀ i, i < A 187 s → A (B + 38) i < 256 ∧ A 186 (i + 300 * s) = sb (A (B + 38) i)
def rlF (A : Nat → Nat → Nat) (B s : Nat) : Prop := A (B + 0) 5 = A 188 s ∧ A (B + 0) 6 = A 189 s
def Rel (A : Nat → Nat → Nat) (B s : Nat) : Prop := rlR A B s ∧ rlK A B s ∧ rlH A B s ∧ rlT A B s ∧ rlP A B s ∧ rlF A B s
def lC (j : Nat) : Nat := if j = 0 then 7 else if j = 1 then 1 else if j ≤ 3 then 6 else if j = 4 then 1 else if j ≤ 8 then 12 else if j = 9 then 3 else if j = 10 then 12 else if j ≤ 12 then 6 else if j ≤ 15 then 12 else if j = 16 then 0 else if j ≤ 28 then 6 else if j = 29 then 1 else if j ≤ 31 then 12 else if j ≤ 35 then 48 else if j = 36 then 0 else if j = 37 then 1 else 300
def nM (c : Nat) : Nat := if c = 186 then 300 else if c ≤ 190 then 1 else if c ≤ 192 then 6 else if c = 193 then 1 else if c ≤ 197 then 12 else if c ≤ 199 then 1 else if c ≤ 201 then 12 else if c = 202 then 1 else if c = 203 then 12 else if c = 204 then 72 else if c = 205 then 1 else if c = 206 then 12 else if c ≤ 209 then 48 else if c = 210 then 12 else if c = 211 then 72 else if c = 212 then 12 else 72
section
variable {A A2 : Nat → Nat → Nat} {B B2 s s2 : Nat}
def agC (A A2 : Nat → Nat → Nat) (B B2 j : Nat) : Prop := ∀ i, i < lC j → A2 (B2 + j) i = A (B + j) i
def agM (A A2 : Nat → Nat → Nat) (s s2 c : Nat) : Prop := ∀ i, i < nM c → A2 c (i + nM c * s2) = A c (i + nM c * s)
theorem agM_1 {c : Nat} (h1 : nM c = 1) (h : agM A A2 s s2 c) : A2 c s2 = A c s := by
  have := h 0 (by rw [h1]; decide)
  rw [h1, Nat.zero_add, Nat.zero_add, Nat.one_mul, Nat.one_mul] at this
  exact this
theorem rlR_cg (hc : ∀ j, 1 ≤ j → j ≤ 3 → agC A A2 B B2 j) (hm : ∀ c, 190 ≤ c → c ≤ 192 → agM A A2 s s2 c) (h : rlR A B s) : rlR A2 B2 s2 := by
  have m190 := agM_1 (by decide) (hm 190 (by omega) (by omega))
  have c1 : A2 (B2 + 1) 0 = A (B + 1) 0 := hc 1 (by omega) (by omega) 0 (by decide)
  obtain ⟨h1, h2, h3⟩ := h
  unfold rlR
  rw [m190, c1]
  refine ⟨h1, h2, fun r hr => ?_⟩
  have c2 : A2 (B2 + 2) r = A (B + 2) r := hc 2 (by omega) (by omega) r (show r < 6 by omega)
  have c3 : A2 (B2 + 3) r = A (B + 3) r := hc 3 (by omega) (by omega) r (show r < 6 by omega)
  have m1 : A2 191 (r + 6 * s2) = A 191 (r + 6 * s) := hm 191 (by omega) (by omega) r (show r < 6 by omega)
  have m2 : A2 192 (r + 6 * s2) = A 192 (r + 6 * s) := hm 192 (by omega) (by omega) r (show r < 6 by omega)
  rw [c2, c3, m1, m2]
  exact h3 r hr
theorem rlK_cg (hc : ∀ j, 4 ≤ j → j ≤ 8 → agC A A2 B B2 j) (hm : ∀ c, 193 ≤ c → c ≤ 197 → agM A A2 s s2 c) (h : rlK A B s) : rlK A2 B2 s2 := by
  have m193 := agM_1 (by decide) (hm 193 (by omega) (by omega))
  have c1 : A2 (B2 + 4) 0 = A (B + 4) 0 := hc 4 (by omega) (by omega) 0 (by decide)
  obtain ⟨h1, h2, h3⟩ := h
  unfold rlK
  rw [m193, c1]
  refine ⟨h1, h2, fun a ha => ?_⟩
  have c5 : A2 (B2 + 5) a = A (B + 5) a := hc 5 (by omega) (by omega) a (show a < 12 by omega)
  have c6 : A2 (B2 + 6) a = A (B + 6) a := hc 6 (by omega) (by omega) a (show a < 12 by omega)
  have c7 : A2 (B2 + 7) a = A (B + 7) a := hc 7 (by omega) (by omega) a (show a < 12 by omega)
  have c8 : A2 (B2 + 8) a = A (B + 8) a := hc 8 (by omega) (by omega) a (show a < 12 by omega)
  have m4 : A2 194 (a + 12 * s2) = A 194 (a + 12 * s) := hm 194 (by omega) (by omega) a (show a < 12 by omega)
  have m5 : A2 195 (a + 12 * s2) = A 195 (a + 12 * s) := hm 195 (by omega) (by omega) a (show a < 12 by omega)
  have m6 : A2 196 (a + 12 * s2) = A 196 (a + 12 * s) := hm 196 (by omega) (by omega) a (show a < 12 by omega)
  have m7 : A2 197 (a + 12 * s2) = A 197 (a + 12 * s) := hm 197 (by omega) (by omega) a (show a < 12 by omega)
  rw [c5, c6, c7, c8, m4, m5, m6, m7]
  exact h3 a ha
theorem rlT_cg (hc : ∀ j, 29 ≤ j → j ≤ 35 → agC A A2 B B2 j) (hm : ∀ c, 205 ≤ c → c ≤ 210 → agM A A2 s s2 c) (h : rlT A B s) : rlT A2 B2 s2 := by
  have m205 := agM_1 (by decide) (hm 205 (by omega) (by omega))
  have c1 : A2 (B2 + 29) 0 = A (B + 29) 0 := hc 29 (by omega) (by omega) 0 (by decide)
  obtain ⟨h1, h2, h3⟩ := h
  unfold rlT
  rw [m205, c1]
  refine ⟨h1, h2, fun l hl => ?_⟩
  obtain ⟨t1, t2, t3, t4, t5⟩ := h3 l hl
  have c2 : A2 (B2 + 30) l = A (B + 30) l := hc 30 (by omega) (by omega) l (show l < 12 by omega)
  have c3 : A2 (B2 + 31) l = A (B + 31) l := hc 31 (by omega) (by omega) l (show l < 12 by omega)
  have m1 : A2 210 (l + 12 * s2) = A 210 (l + 12 * s) := hm 210 (by omega) (by omega) l (show l < 12 by omega)
  have m2 : A2 206 (l + 12 * s2) = A 206 (l + 12 * s) := hm 206 (by omega) (by omega) l (show l < 12 by omega)
  rw [c2, c3, m1, m2]
  refine ⟨t1, t2, t3, t4, fun i hi => ?_⟩
  have c4 : A2 (B2 + 32) (4 * l + i) = A (B + 32) (4 * l + i) := hc 32 (by omega) (by omega) (4 * l + i) (show 4 * l + i < 48 by omega)
  have c5 : A2 (B2 + 33) (4 * l + i) = A (B + 33) (4 * l + i) := hc 33 (by omega) (by omega) (4 * l + i) (show 4 * l + i < 48 by omega)
  have c6 : A2 (B2 + 34) (4 * l + i) = A (B + 34) (4 * l + i) := hc 34 (by omega) (by omega) (4 * l + i) (show 4 * l + i < 48 by omega)
  have c7 : A2 (B2 + 35) (4 * l + i) = A (B + 35) (4 * l + i) := hc 35 (by omega) (by omega) (4 * l + i) (show 4 * l + i < 48 by omega)
  have m3 : A2 207 (4 * l + i + 48 * s2) = A 207 (4 * l + i + 48 * s) := hm 207 (by omega) (by omega) (4 * l + i) (show 4 * l + i < 48 by omega)
  have m4 : A2 208 (4 * l + i + 48 * s2) = A 208 (4 * l + i + 48 * s) := hm 208 (by omega) (by omega) (4 * l + i) (show 4 * l + i < 48 by omega)
  have m5 : A2 209 (4 * l + i + 48 * s2) = A 209 (4 * l + i + 48 * s) := hm 209 (by omega) (by omega) (4 * l + i) (show 4 * l + i < 48 by omega)
  rw [c4, c5, c6, c7, m3, m4, m5]
  exact t5 i hi
theorem rlP_cg (hc : ∀ j, 37 ≤ j → j ≤ 38 → agC A A2 B B2 j) (hm : ∀ c, 186 ≤ c → c ≤ 187 → agM A A2 s s2 c) (h : rlP A B s) : rlP A2 B2 s2 := by
  have m187 := agM_1 (by decide) (hm 187 (by omega) (by omega))
  have c1 : A2 (B2 + 37) 0 = A (B + 37) 0 := hc 37 (by omega) (by omega) 0 (by decide)
  obtain ⟨h1, h2, h3⟩ := h
  unfold rlP
  rw [m187, c1]
  refine ⟨h1, h2, fun i hi => ?_⟩
  have c2 : A2 (B2 + 38) i = A (B + 38) i := hc 38 (by omega) (by omega) i (show i < 300 by omega)
  have m1 : A2 186 (i + 300 * s2) = A 186 (i + 300 * s) := hm 186 (by omega) (by omega) i (show i < 300 by omega)
  rw [c2, m1]
  exact h3 i hi
theorem rlF_cg (hc : agC A A2 B B2 0) (hm : ∀ c, 188 ≤ c → c ≤ 189 → agM A A2 s s2 c) (h : rlF A B s) : rlF A2 B2 s2 := by
  have m188 := agM_1 (by decide) (hm 188 (by omega) (by omega))
  have m189 := agM_1 (by decide) (hm 189 (by omega) (by omega))
  have c1 : A2 (B2 + 0) 5 = A (B + 0) 5 := hc 5 (by decide)
  have c2 : A2 (B2 + 0) 6 = A (B + 0) 6 := hc 6 (by decide)
  unfold rlF
  rw [m188, m189, c1, c2]
  exact h
theorem rlH_cg (h12 : A 190 s ≤ 6 ∧ ∀ r, r < A 190 s → A 191 (r + 6 * s) ≤ 12) (h93 : A 193 s ≤ 12) (hc : ∀ j, 9 ≤ j → j ≤ 28 → agC A A2 B B2 j) (hm : ∀ c, (190 ≤ c ∧ c ≤ 193) ∨ (198 ≤ c ∧ c ≤ 204) ∨ (211 ≤ c ∧ c ≤ 213) → agM A A2 s s2 c) (h : rlH A B s) : rlH A2 B2 s2 := by
  have m190 := agM_1 (by decide) (hm 190 (by omega))
  have m193 := agM_1 (by decide) (hm 193 (by omega))
  have m198 := agM_1 (by decide) (hm 198 (by omega))
  have m199 := agM_1 (by decide) (hm 199 (by omega))
  have m202 := agM_1 (by decide) (hm 202 (by omega))
  have c90 : A2 (B2 + 9) 0 = A (B + 9) 0 := hc 9 (by omega) (by omega) 0 (by decide)
  have c91 : A2 (B2 + 9) 1 = A (B + 9) 1 := hc 9 (by omega) (by omega) 1 (by decide)
  have c92 : A2 (B2 + 9) 2 = A (B + 9) 2 := hc 9 (by omega) (by omega) 2 (by decide)
  have m191 : ∀ r, r < 6 → A2 191 (r + 6 * s2) = A 191 (r + 6 * s) := fun r hr => hm 191 (by omega) r hr
  have m200 : ∀ a, a < 12 → A2 200 (a + 12 * s2) = A 200 (a + 12 * s) := fun a ha => hm 200 (by omega) a ha
  have m201 : ∀ a, a < 12 → A2 201 (a + 12 * s2) = A 201 (a + 12 * s) := fun a ha => hm 201 (by omega) a ha
  have m203 : ∀ a, a < 12 → A2 203 (a + 12 * s2) = A 203 (a + 12 * s) := fun a ha => hm 203 (by omega) a ha
  have m204 : ∀ i, i < 72 → A2 204 (i + 72 * s2) = A 204 (i + 72 * s) := fun a ha => hm 204 (by omega) a ha
  have m211 : ∀ i, i < 72 → A2 211 (i + 72 * s2) = A 211 (i + 72 * s) := fun a ha => hm 211 (by omega) a ha
  have m212 : ∀ a, a < 12 → A2 212 (a + 12 * s2) = A 212 (a + 12 * s) := fun a ha => hm 212 (by omega) a ha
  have m213 : ∀ i, i < 72 → A2 213 (i + 72 * s2) = A 213 (i + 72 * s) := fun a ha => hm 213 (by omega) a ha
  obtain ⟨h1, h2, h3, h4, h5, h6, h7, h8, h9⟩ := h
  unfold rlH
  rw [m190, m193, m198, m199, m202, c90, c91, c92]
  have hl6 : ∀ a, a < 12 → A 212 (a + 12 * s) ≤ 6 := h6.2.2.2.2.2
  refine ⟨h1, fun k hk => ?_, fun i k hi hk => ?_, fun a ha => ?_, fun a k ha hk => ?_, ?_, fun i hi => ?_, fun r hr => ?_, fun z => ?_⟩
  · have c10 : A2 (B2 + 10) k = A (B + 10) k := hc 10 (by omega) (by omega) k (show k < 12 by omega)
    have q := (h2 k hk).2.1
    rw [c10, m203 k (by omega), m212 _ (by omega)]
    exact h2 k hk
  · rw [m203 i (by omega), m203 k (by omega)]
    exact h3 i k hi hk
  · have c13 : A2 (B2 + 13) a = A (B + 13) a := hc 13 (by omega) (by omega) a ha
    have c14 : A2 (B2 + 14) a = A (B + 14) a := hc 14 (by omega) (by omega) a ha
    have c15 : A2 (B2 + 15) a = A (B + 15) a := hc 15 (by omega) (by omega) a ha
    rw [c13, c14, c15, m212 a ha, m200 a ha, m201 a ha]
    exact h4 a ha
  · rw [m212 a ha] at hk
    have := hl6 a ha
    have c17 := hc (17 + a) (by omega) (by omega) k (by unfold lC; rw [if_neg (by omega), if_neg (by omega), if_neg (by omega), if_neg (by omega), if_neg (by omega), if_neg (by omega), if_neg (by omega), if_neg (by omega), if_neg (by omega), if_neg (by omega), if_pos (by omega)]; omega)
    rw [← Nat.add_assoc, ← Nat.add_assoc] at c17
    rw [c17, m213 (6 * a + k) (by omega)]
    exact h5 a k ha hk
  · refine HI_cg h12.1 h12.2 (fun r hr => m191 r (by omega)) (fun r hr => ?_) m212 (fun a k ha hk => ?_) m211 h6
    · exact hc 11 (by omega) (by omega) r (show r < 6 by omega)
    · have := hl6 a ha
      exact m213 (6 * a + k) (by omega)
  · rw [m211 i hi, m204 i hi]
    exact h7 i hi
  · have c12 : A2 (B2 + 12) r = A (B + 12) r := hc 12 (by omega) (by omega) r hr
    rw [c12]
    obtain ⟨g1, g2, g3⟩ := h8 r hr
    refine ⟨g1, g2, fun j hj => ?_⟩
    rw [m204 (12 * r + j) (by omega)]
    exact g3 j hj
  · obtain ⟨g1, g2, g3⟩ := h9 z
    refine ⟨g1, fun i hi => ?_, fun a ha => ?_⟩
    · rw [m211 i hi, m204 i hi]; exact g2 i hi
    · rw [m212 a ha, m200 a ha, m201 a ha]; exact g3 a ha
theorem Rel_cg (hc : ∀ j, j < 39 → agC A A2 B B2 j) (hm : ∀ c, 186 ≤ c → c ≤ 213 → agM A A2 s s2 c) (h : Rel A B s) : Rel A2 B2 s2 := by
  obtain ⟨h1, h2, h3, h4, h5, h6⟩ := h
  exact ⟨rlR_cg (fun j h1 h2 => hc j (by omega)) (fun c h1 h2 => hm c (by omega) (by omega)) h1, rlK_cg (fun j h1 h2 => hc j (by omega)) (fun c h1 h2 => hm c (by omega) (by omega)) h2, rlH_cg ⟨h1.2.1, fun r hr => (h1.2.2 r hr).2.2.2.1⟩ h2.2.1 (fun j h1 h2 => hc j (by omega)) (fun c h1 => hm c (by omega) (by omega)) h3, rlT_cg (fun j h1 h2 => hc j (by omega)) (fun c h1 h2 => hm c (by omega) (by omega)) h4, rlP_cg (fun j h1 h2 => hc j (by omega)) (fun c h1 h2 => hm c (by omega) (by omega)) h5, rlF_cg (hc 0 (by omega)) (fun c h1 h2 => hm c (by omega) (by omega)) h6⟩
end
/-- what holds between two calls -/
def Inv (A : Nat → Nat → Nat) : Prop := Rel A 1 0 ∧ (∀ k, k < 3 → A 158 k = A 220 k ∧ A 220 k ≤ 1 ∧ (A 220 k = 1 → Rel A (41 + 39 * k) (k + 1))) ∧ A 161 0 ≤ 1 ∧ (A 161 0 = 1 → ∀ x, x < 6 → A 162 x = gC (A 4) (A 2 0) (A 6) (A 7) (A 9) (A 5 0) (A 5 0) 0 (fun i => if i < A 2 0 then 1 <<< A 3 i - 1 else 0) x)

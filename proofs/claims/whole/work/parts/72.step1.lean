set_option maxRecDepth 20000
set_option maxHeartbeats 4000000
/-! STEPS: frames, and the calls that only look -/
def ShOK (A : Nat → Nat → Nat) : Prop := A 161 0 ≤ 1 ∧ (A 161 0 = 1 → ∀ x, x < 6 → A 162 x = gC (A 4) (A 2 0) (A 6) (A 7) (A 9) (A 5 0) (A 5 0) 0 (fun i => if i < A 2 0 then 1 <<< A 3 i - 1 else 0) x)
theorem ShOK_cg {A A2 : Nat → Nat → Nat} (h1 : ∀ c, 2 ≤ c → c ≤ 9 → A2 c = A c) (h2 : A2 161 = A 161) (h3 : A2 162 = A 162) (h : ShOK A) : ShOK A2 := by
  unfold ShOK at *
  rw [h1 2 (by omega) (by omega), h1 3 (by omega) (by omega), h1 4 (by omega) (by omega), h1 5 (by omega) (by omega), h1 6 (by omega) (by omega), h1 7 (by omega) (by omega), h1 9 (by omega) (by omega), h2, h3]
  exact h
theorem Inv_fr {A A2 : Nat → Nat → Nat} (h : Inv A) (h1 : ∀ c, 41 ≤ c → c ≤ 158 → A2 c = A c) (h2 : A2 220 = A 220) (h3 : ∀ c, 186 ≤ c → c ≤ 213 → ∀ i, nM c ≤ i → i < 4 * nM c → A2 c i = A c i) (h4 : ShOK A2) (h5 : Rel A2 1 0) : Inv A2 := by
  obtain ⟨-, k2, -, -⟩ := h
  refine ⟨h5, fun k hk => ?_, h4.1, h4.2⟩
  rw [h1 158 (by omega) (by omega), h2]
  obtain ⟨q1, q2, q3⟩ := k2 k hk
  refine ⟨q1, q2, fun z => Rel_cg (fun j hj i hi => ?_) (fun c hc1 hc2 i hi => ?_) (q3 z)⟩
  · rw [h1 (41 + 39 * k + j) (by omega) (by omega)]
  · have : k = 0 ∨ k = 1 ∨ k = 2 := by omega
    rcases this with rfl | rfl | rfl
    · exact h3 c hc1 hc2 _ (by omega) (by omega)
    · exact h3 c hc1 hc2 _ (by omega) (by omega)
    · exact h3 c hc1 hc2 _ (by omega) (by omega)
theorem Inv_sh {A : Nat → Nat → Nat} (h : Inv A) : ShOK A := ⟨h.2.2.1, h.2.2.2⟩
/-- only cells that the relation does not read have changed -/
theorem Inv_id {A A2 : Nat → Nat → Nat} (h : Inv A) (h1 : ∀ c, c ≠ 185 → c ≠ 160 → c ≠ 163 → (c < 165 ∨ 171 < c) → c ≠ 214 → A2 c = A c) : Inv A2 := by
  refine Inv_fr h (fun c h2 h3 => h1 c (by omega) (by omega) (by omega) (by omega) (by omega)) (h1 220 (by omega) (by omega) (by omega) (by omega) (by omega)) (fun c h2 h3 i _ _ => by rw [h1 c (by omega) (by omega) (by omega) (by omega) (by omega)]) (ShOK_cg (fun c h2 h3 => h1 c (by omega) (by omega) (by omega) (by omega) (by omega)) (h1 161 (by omega) (by omega) (by omega) (by omega) (by omega)) (h1 162 (by omega) (by omega) (by omega) (by omega) (by omega)) (Inv_sh h)) (Rel_cg (fun j hj i hi => by rw [h1 (1 + j) (by omega) (by omega) (by omega) (by omega) (by omega)]) (fun c h2 h3 i hi => by rw [h1 c (by omega) (by omega) (by omega) (by omega) (by omega)]) h.1)
theorem Inv_185 {A : Nat → Nat → Nat} (h : Inv A) : Inv (aU A 185 0 0) := Inv_id h (fun c h1 _ _ _ _ => zA h1)
def tdStp (X : mX) (D : Nat) (G : mG) (A : Nat → Nat → Nat) (c : Nat) (ca : List Value) (m : Nat) (ma : List Value) : Prop := ∃ (w : Int32) (A1 A2 : Nat → Nat → Nat) (G2 : mG), (∀ P, mCall X D c ca (mN A, RF, G, mSh) P = P (some (.int w)) (mN (A1), RF, G, mSh)) ∧ (∀ P, mCall X D m ma (mN (A1), RF, G, mSh) P = P (some (.int w)) (mN A2, RF, G2, mSh)) ∧ Inv A2
def tdStpV (X : mX) (D : Nat) (G : mG) (A : Nat → Nat → Nat) (c : Nat) (ca : List Value) (m : Nat) (ma : List Value) : Prop := ∃ (A1 A2 : Nat → Nat → Nat) (G2 : mG), (∀ P, mCall X D c ca (mN A, RF, G, mSh) P = P none (mN (A1), RF, G, mSh)) ∧ (∀ P, mCall X D m ma (mN (A1), RF, G, mSh) P = P none (mN A2, RF, G2, mSh)) ∧ Inv A2
section
variable {A : Nat → Nat → Nat}
theorem nR (h : Inv A) : A 2 0 = A 190 0 ∧ A 190 0 ≤ 6 ∧ ∀ r, r < A 190 0 → A 3 r = A 191 r ∧ A 4 r = A 192 r ∧ 1 ≤ A 191 r ∧ A 191 r ≤ 12 ∧ A 192 r ≤ 999 := h.1.1
theorem nK (h : Inv A) : A 5 0 = A 193 0 ∧ A 193 0 ≤ 12 ∧ ∀ a, a < A 193 0 → A 6 a = A 194 a ∧ A 7 a = A 195 a ∧ A 8 a = A 196 a ∧ A 9 a = A 197 a ∧ 1 ≤ A 194 a ∧ A 194 a ≤ 6 ∧ A 195 a ≤ 999 ∧ A 196 a ≤ 999 ∧ A 197 a ≤ 1 := h.1.2.1
theorem nH (h : Inv A) : (A 10 0 = A 198 0 ∧ A 198 0 ≤ 1 ∧ A 10 1 = A 199 0 ∧ A 199 0 ≤ 30 ∧ A 10 2 = A 202 0 ∧ A 202 0 ≤ 12) ∧ (∀ k, k < A 202 0 → A 11 k = A 203 k ∧ A 203 k < A 193 0 ∧ A 212 (A 203 k) = 0) ∧ (∀ i k, i < k → k < A 202 0 → A 203 i ≠ A 203 k) ∧ (∀ a, a < 12 → A 14 a = A 212 a ∧ A 15 a = A 200 a ∧ A 16 a = A 201 a ∧ (A 193 0 ≤ a → A 212 a = 0)) ∧ (∀ a k, a < 12 → k < A 212 a → A (18 + a) k = A 213 (6 * a + k)) ∧ HI (A 190 0) (A 191) (A 12) (A 212) (fun a k => A 213 (6 * a + k)) (A 211) ∧ (∀ i, i < 72 → (A 211 i = 4294967295 ∨ A 211 i < 12) ∧ A 204 i ≤ 1) ∧ (∀ r, r < 6 → A 13 r < 4096 ∧ (A 190 0 ≤ r → A 13 r = 0) ∧ ∀ j, j < 12 → ((A 13 r).testBit j = true ↔ A 204 (12 * r + j) = 1)) ∧ (A 198 0 = 0 → A 202 0 = 0 ∧ (∀ i, i < 72 → A 211 i = 4294967295 ∧ A 204 i = 0) ∧ (∀ a, a < 12 → A 212 a = 0 ∧ A 200 a = 0 ∧ A 201 a = 0)) := h.1.2.2.1
theorem nT (h : Inv A) : A 30 0 = A 205 0 ∧ A 205 0 ≤ 12 ∧ ∀ l, l < A 205 0 → A 31 l = A 210 l ∧ A 210 l ≤ 100 ∧ A 32 l = A 206 l ∧ A 206 l ≤ 4 ∧ ∀ i, i < A 206 l → A 33 (4 * l + i) < 5 ∧ A 36 (4 * l + i) ≤ 1 ∧ A 207 (4 * l + i) = A 33 (4 * l + i) + 8 * A 36 (4 * l + i) ∧ A 34 (4 * l + i) = A 208 (4 * l + i) ∧ A 35 (4 * l + i) = A 209 (4 * l + i) ∧ A 208 (4 * l + i) < 256 ∧ A 209 (4 * l + i) ≤ 999 := h.1.2.2.2.1
theorem nP (h : Inv A) : A 38 0 = A 187 0 ∧ A 187 0 ≤ 300 ∧ ∀ i, i < A 187 0 → A 39 i < 256 ∧ A 186 i = sb (A 39 i) := h.1.2.2.2.2.1
theorem nF (h : Inv A) : A 1 5 = A 188 0 ∧ A 1 6 = A 189 0 := h.1.2.2.2.2.2
theorem nO (h : Inv A) : ∀ r, r < A 190 0 → oRow A 0 r (A 12 r) := by
  intro r hr
  obtain ⟨-, -, -, -, -, h6, h7, -, -⟩ := nH h
  have hw := ((nR h).2.2 r hr).2.2.2.1
  have h90 := (nR h).2.1
  refine ⟨h6.1 r hr, fun j hj => ?_⟩
  have e : 72 * 0 + 12 * r + j = 12 * r + j := by omega
  rw [e]
  refine ⟨?_, (h6.2.1 r j hr hj).symm⟩
  have := (h7 (12 * r + j) (by omega)).1
  omega
theorem nA (h : Inv A) : okA A := by
  obtain ⟨r1, r2, r3⟩ := nR h
  obtain ⟨k1, k2, k3⟩ := nK h
  unfold okA
  rw [r1, k1]
  exact ⟨r2, fun r hr => by rw [(r3 r hr).1]; exact (r3 r hr).2.2.2.1, fun r hr => by rw [(r3 r hr).2.1]; exact (r3 r hr).2.2.2.2, k2, fun a ha => by
    obtain ⟨a1, a2, a3, a4, a5, a6, a7, a8, a9⟩ := k3 a ha
    rw [a1, a2, a4]
    exact ⟨a5, a6, a7, a9⟩⟩
theorem nM' (h : Inv A) : okM A := by
  obtain ⟨r1, r2, r3⟩ := nR h
  obtain ⟨k1, k2, k3⟩ := nK h
  exact ⟨r2, fun r hr => ⟨(r3 r hr).2.2.1, (r3 r hr).2.2.2.1⟩, fun r hr => (r3 r hr).2.2.2.2, k2, fun a ha => ⟨(k3 a ha).2.2.2.2.1, (k3 a ha).2.2.2.2.2.1, (k3 a ha).2.2.2.2.2.2.1, (k3 a ha).2.2.2.2.2.2.2.2⟩⟩
theorem nW (h : Inv A) : ∀ r, r < A 190 0 → A 12 r < 4096 := fun r hr => pw_4096 ((nR h).2.2 r hr).2.2.2.1 ((nH h).2.2.2.2.2.1.1 r hr)
theorem nT' (h : Inv A) : ∀ a, a < 12 → ∀ k, k < A 212 a → A 213 (6 * a + k) / 100 < A 190 0 ∧ A 213 (6 * a + k) % 100 < A 191 (A 213 (6 * a + k) / 100) ∧ A 213 (6 * a + k) < 600 ∧ A 213 (6 * a + k) % 100 < 12 := by
  intro a ha k hk
  obtain ⟨q1, q2⟩ := (nH h).2.2.2.2.2.1.2.2.2.1 a k ha hk
  have q1 : A 213 (6 * a + k) / 100 < A 190 0 := q1
  have q2 : A 213 (6 * a + k) % 100 < A 191 (A 213 (6 * a + k) / 100) := q2
  have r2 := (nR h).2.1
  have := ((nR h).2.2 _ q1).2.2.2.1
  exact ⟨q1, q2, by omega, by omega⟩
end
section
variable {X : mX} {D : Nat} {G : mG} {A : Nat → Nat → Nat}
theorem st_13 {x : Nat} (hD : 20 ≤ D) (h : Inv A) (hx : x < 4294967296) : tdStp X D G A 90 [.ref 0, .int (tN x)] 163 [.ref 185, .int (tN x)] := by
  refine ⟨_, A, aU A 185 0 0, G, fun P => c_90 (by omega) hx, fun P => ?_, Inv_185 h⟩
  rw [m_163 (by omega) hx, (nF h).1, (nF h).2]
theorem at_eq {r s : Nat} (h : Inv A) : (if r < A 2 0 ∧ s < A 3 r then hfA (A 14) (fun a => A (18 + a)) (r * 100 + s) 0 (A 5 0) else 4294967295) = (if r < A 190 0 ∧ s < A 191 r then A 211 (12 * r + s) else 4294967295) := by
  obtain ⟨r1, r2, r3⟩ := nR h
  obtain ⟨k1, k2, k3⟩ := nK h
  obtain ⟨h1, h2, h3, h4, h5, h6, h7, h8, h9⟩ := nH h
  rw [r1, k1]
  by_cases c : r < A 190 0
  · obtain ⟨w1, w2, w3, w4, w5⟩ := r3 r c
    rw [w1]
    by_cases c2 : s < A 191 r
    · rw [if_pos ⟨c, c2⟩, if_pos ⟨c, c2⟩]
      have e : HI (A 190 0) (A 191) (A 12) (A 14) (fun a => A (18 + a)) (A 211) := HI_cg r2 (fun r hr => (r3 r hr).2.2.2.1) (fun _ _ => rfl) (fun _ _ => rfl) (fun a ha => (h4 a ha).1) (fun a k ha hk => h5 a k ha hk) (fun _ _ => rfl) h6
      exact HI_hf k2 (fun a h1 h2 => by rw [(h4 a h2).1]; exact (h4 a h2).2.2.2 h1) (h7 _ (by omega)).1 c c2 e
    · rw [if_neg (fun z => c2 z.2), if_neg (fun z => c2 z.2)]
  · rw [if_neg (fun z => c z.1), if_neg (fun z => c z.1)]
theorem hd_6 (h : Inv A) : (∀ a, a < A 5 0 → A 14 a ≤ 6) ∧ (∀ a, a < A 5 0 → ∀ k, k < A 14 a → A (18 + a) k < 4294967296) := by
  obtain ⟨k1, k2, k3⟩ := nK h
  obtain ⟨h1, h2, h3, h4, h5, h6, h7, h8, h9⟩ := nH h
  rw [k1]
  refine ⟨fun a ha => ?_, fun a ha k hk => ?_⟩
  · rw [(h4 a (by omega)).1]; exact h6.2.2.2.2.2 a (by omega)
  · rw [(h4 a (by omega)).1] at hk
    rw [h5 a k (by omega) hk]
    have := (nT' h a (by omega) k hk).2.2.1
    omega
theorem st_16 {r s : Nat} (hD : 20 ≤ D) (h : Inv A) (hr : r < 4294967296) (hs : s < 4294967296) : tdStp X D G A 100 [.ref 0, .int (tN r), .int (tN s)] 172 [.ref 185, .int (tN r), .int (tN s)] := by
  obtain ⟨r1, r2, r3⟩ := nR h
  obtain ⟨k1, k2, k3⟩ := nK h
  obtain ⟨q1, q2⟩ := hd_6 h
  refine ⟨_, A, aU A 185 0 0, G, fun P => c_100 (by omega) hr hs (by rw [k1]; exact k2) (by rw [r1]; exact r2) (by rw [r1]; exact fun r hr => by rw [(r3 r hr).1]; exact (r3 r hr).2.2.2.1) q1 q2, fun P => ?_, Inv_185 h⟩
  rw [m_172 (by omega) hr hs r2 (fun r hr => ⟨(r3 r hr).2.2.1, (r3 r hr).2.2.2.1⟩), at_eq h]
theorem st_17 {a x : Nat} (hD : 20 ≤ D) (h : Inv A) (ha : a < 4294967296) (hx : x < 4294967296) : tdStp X D G A 104 [.ref 0, .int (tN a), .int (tN x)] 173 [.ref 185, .int (tN a), .int (tN x)] := by
  obtain ⟨k1, k2, k3⟩ := nK h
  obtain ⟨h1, h2, h3, h4, h5, h6, h7, h8, h9⟩ := nH h
  have e1 : ∀ k, k < A 202 0 → A 203 k < 12 := fun k hk => by have := (h2 k hk).2.1; omega
  refine ⟨_, A, aU A 185 0 0, G, fun P => c_104 (by omega) ha hx (by rw [k1]; exact k2) (by rw [k1]; exact fun a ha => by rw [(k3 a ha).2.2.2.1]; exact (k3 a ha).2.2.2.2.2.2.2.2) (by rw [h1.2.2.2.2.1]; exact h1.2.2.2.2.2) (by rw [h1.2.2.2.2.1]; exact fun k hk => by rw [(h2 k hk).1]; exact e1 k hk), fun P => ?_, Inv_185 h⟩
  rw [m_173 (by omega) ha hx k2 (fun a ha => (k3 a ha).2.2.2.2.2.2.2.2) h1.2.2.2.2.2 e1, k1, h1.2.2.2.2.1]
  by_cases c : a < A 193 0
  · obtain ⟨a1, a2, a3, a4, -⟩ := k3 a c
    obtain ⟨b1, b2, b3, -⟩ := h4 a (by omega)
    rw [if_pos c, if_pos c, a1, a2, a3, a4, b1, b2, b3, fnd_cg (L := A 11) (L2 := A 203) (A 202 0) 0 (fun i _ hi => (h2 i (by omega)).1)]
  · rw [if_neg c, if_neg c]
theorem st_18 {a k : Nat} (hD : 20 ≤ D) (h : Inv A) (ha : a < 4294967296) (hk : k < 4294967296) : tdStp X D G A 106 [.ref 0, .int (tN a), .int (tN k)] 174 [.ref 185, .int (tN a), .int (tN k)] := by
  obtain ⟨k1, k2, k3⟩ := nK h
  obtain ⟨h1, h2, h3, h4, h5, h6, h7, h8, h9⟩ := nH h
  obtain ⟨q1, q2⟩ := hd_6 h
  refine ⟨_, A, aU A 185 0 0, G, fun P => c_106 (by omega) ha hk (by rw [k1]; exact k2) q1, fun P => ?_, Inv_185 h⟩
  rw [m_174 (by omega) ha hk k2 h6.2.2.2.2.2, k1]
  by_cases c : a < A 193 0
  · rw [(h4 a (by omega)).1]
    by_cases c2 : k < A 212 a
    · rw [if_pos ⟨c, c2⟩, if_pos ⟨c, c2⟩, h5 a k (by omega) c2]
    · rw [if_neg (fun z => c2 z.2), if_neg (fun z => c2 z.2)]
  · rw [if_neg (fun z => c z.1), if_neg (fun z => c z.1)]
theorem st_19 {r x : Nat} (hD : 20 ≤ D) (h : Inv A) (hr : r < 4294967296) (hx : x < 4294967296) : tdStp X D G A 107 [.ref 0, .int (tN r), .int (tN x)] 175 [.ref 185, .int (tN r), .int (tN x)] := by
  obtain ⟨r1, r2, r3⟩ := nR h
  refine ⟨_, A, aU A 185 0 0, G, fun P => c_107 (by omega) hr hx (by rw [r1]; exact r2) (by rw [r1]; exact nW h), fun P => ?_, Inv_185 h⟩
  rw [m_175 (F := A 12) (by omega) hr hx r2 (fun r hr => ⟨(r3 r hr).2.2.1, (r3 r hr).2.2.2.1⟩) (nO h), r1]
  by_cases c : r < A 190 0
  · rw [if_pos c, if_pos c, (r3 r c).1, (r3 r c).2.1]
  · rw [if_neg c, if_neg c]
theorem st_7 {a : Nat} (hD : 20 ≤ D) (h : Inv A) (ha : a < 4294967296) : tdStp X D G A 44 [.ref 0, .int (tN a)] 146 [.ref 185, .int (tN a)] := by
  obtain ⟨k1, k2, k3⟩ := nK h
  refine ⟨_, A, aU A 185 0 0, G, fun P => c_44 (by omega) ha (by rw [k1]; exact k2) (by rw [k1]; exact fun i hi => by rw [(k3 i hi).2.2.1]; exact (k3 i hi).2.2.2.2.2.2.2.1), fun P => ?_, Inv_185 h⟩
  rw [m_146 (by omega) ha k2 (fun i hi => (k3 i hi).2.2.2.2.2.2.2.1), k1]
  have cI : ∀ x a, a < A 193 0 → ∀ b, b ≤ A 193 0 → roI (fun i j => alb (A 8 i) (A 8 j)) x a b = roI (fun i j => alb (A 196 i) (A 196 j)) x a b := by
    intro x a ha b
    induction b with
    | zero => intro _; rfl
    | succ b ih =>
      intro hb
      unfold roI
      rw [ih (by omega), (k3 a ha).2.2.1, (k3 b (by omega)).2.2.1]
  have cO : ∀ x a, a ≤ A 193 0 → roO (fun i j => alb (A 8 i) (A 8 j)) (A 193 0) x a = roO (fun i j => alb (A 196 i) (A 196 j)) (A 193 0) x a := by
    intro x a
    induction a with
    | zero => intro _; rfl
    | succ a ih =>
      intro hb
      unfold roO
      rw [ih (by omega)]
      exact cI _ a (by omega) _ (Nat.le_refl _)
  have cP : ∀ x k, hpI (fun i j => alb (A 8 i) (A 8 j)) (A 193 0) x k = hpI (fun i j => alb (A 196 i) (A 196 j)) (A 193 0) x k := by
    intro x k
    induction k with
    | zero => rfl
    | succ k ih =>
      unfold hpI
      rw [ih]
      exact cO _ _ (Nat.le_refl _)
  rw [cP]
theorem st_8 {a b : Nat} (hD : 20 ≤ D) (h : Inv A) (ha : a < 4294967296) (hb : b < 4294967296) : tdStp X D G A 48 [.ref 0, .int (tN a), .int (tN b)] 148 [.ref 185, .int (tN a), .int (tN b)] := by
  obtain ⟨k1, k2, k3⟩ := nK h
  refine ⟨_, A, aU A 185 0 0, G, fun P => c_48 (by omega) ha hb (by rw [k1]; exact k2) (by rw [k1]; exact fun i hi => by rw [(k3 i hi).2.2.1]; exact (k3 i hi).2.2.2.2.2.2.2.1), fun P => ?_, Inv_185 h⟩
  rw [m_148 (by omega) ha hb k2 (fun i hi => (k3 i hi).2.2.2.2.2.2.2.1), k1]
  by_cases c1 : a < A 193 0
  · by_cases c2 : b < A 193 0
    · rw [(k3 a c1).2.2.1, (k3 b c2).2.2.1]
    · rw [if_neg (fun z => c2 z.2.1), if_neg (fun z => c2 z.2.1)]
  · rw [if_neg (fun z => c1 z.1), if_neg (fun z => c1 z.1)]
end

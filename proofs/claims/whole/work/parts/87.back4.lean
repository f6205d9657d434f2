set_option maxRecDepth 20000
set_option maxHeartbeats 4000000
/-! STEP: back -/
section
variable {pr pr2 sz sz2 mo mo2 pt pt2 : Nat → Nat} {nr m : Nat} {ord ord2 F0 : Nat → Nat}
def cg3 (pr pr2 sz sz2 mo mo2 pt pt2 ord ord2 : Nat → Nat) (nr m : Nat) : Prop := (∀ r, r < nr → pr r = pr2 r) ∧ ∀ k, k < m → ord k = ord2 k ∧ sz (ord k) = sz2 (ord k) ∧ mo (ord k) = mo2 (ord k) ∧ pt (ord k) = pt2 (ord k)
theorem rnF_c3 (h : cg3 pr pr2 sz sz2 mo mo2 pt pt2 ord ord2 nr m) : ∀ k, k ≤ m → rnF pr nr sz mo pt F0 ord k = rnF pr2 nr sz2 mo2 pt2 F0 ord2 k
  | 0, _ => rfl
  | k + 1, hk => by
    unfold rnF
    obtain ⟨e0, e1, e2, e3⟩ := h.2 k (by omega)
    rw [rnF_c3 h k (by omega), e1, e2, e3, e0, ttF_cgp h.1]
theorem rnN_c3 (h : cg3 pr pr2 sz sz2 mo mo2 pt pt2 ord ord2 nr m) {k : Nat} (hk : k < m) : rnN pr nr sz mo pt F0 ord k = rnN pr2 nr sz2 mo2 pt2 F0 ord2 k := by
  unfold rnN
  obtain ⟨e0, e1, e2, e3⟩ := h.2 k hk
  rw [rnF_c3 h k (by omega), e1, e2, e3, e0, ttN_cgp h.1]
theorem rnT_c3 (h : cg3 pr pr2 sz sz2 mo mo2 pt pt2 ord ord2 nr m) {k : Nat} (hk : k < m) {t : Nat → Nat} : rnT pr nr sz mo pt F0 ord k t = rnT pr2 nr sz2 mo2 pt2 F0 ord2 k t := by
  unfold rnT
  obtain ⟨e0, e1, e2, e3⟩ := h.2 k hk
  rw [rnF_c3 h k (by omega), e1, e2, e3, e0, ttT_cgp h.1]
theorem rnQ_c3 (h : cg3 pr pr2 sz sz2 mo mo2 pt pt2 ord ord2 nr m) : ∀ k, k ≤ m → rnQ pr nr sz mo pt F0 ord k = rnQ pr2 nr sz2 mo2 pt2 F0 ord2 k
  | 0, _ => rfl
  | k + 1, hk => by
    unfold rnQ
    rw [rnQ_c3 h k (by omega), rnN_c3 h (by omega)]
theorem rnL_c3 (h : cg3 pr pr2 sz sz2 mo mo2 pt pt2 ord ord2 nr m) {L : Nat → Nat} : ∀ k, k ≤ m → rnL pr nr sz mo pt F0 ord L k = rnL pr2 nr sz2 mo2 pt2 F0 ord2 L k
  | 0, _ => rfl
  | k + 1, hk => by
    unfold rnL
    rw [rnL_c3 h k (by omega), rnN_c3 h (by omega), rnQ_c3 h k (by omega), (h.2 k (by omega)).1]
theorem rnH_c3 (h : cg3 pr pr2 sz sz2 mo mo2 pt pt2 ord ord2 nr m) {H : Nat → Nat} : ∀ k, k ≤ m → rnH pr nr sz mo pt F0 ord H k = rnH pr2 nr sz2 mo2 pt2 F0 ord2 H k
  | 0, _ => rfl
  | k + 1, hk => by
    unfold rnH
    rw [rnH_c3 h k (by omega), rnN_c3 h (by omega), (h.2 k (by omega)).1]
theorem rnK_c3 (h : cg3 pr pr2 sz sz2 mo mo2 pt pt2 ord ord2 nr m) {T : Nat → Nat → Nat} : ∀ k, k ≤ m → rnK pr nr sz mo pt F0 ord T k = rnK pr2 nr sz2 mo2 pt2 F0 ord2 T k
  | 0, _ => rfl
  | k + 1, hk => by
    unfold rnK
    rw [rnK_c3 h k (by omega), rnT_c3 h (by omega), (h.2 k (by omega)).1]
end
theorem gmO_cg {A B : Nat → Nat → Nat} {a : Nat} (h1 : B 211 = A 211) (h2 : B 212 = A 212) (h3 : B 213 = A 213) : ∀ g, gmO B a g = gmO A a g
  | 0 => h1
  | g + 1 => by
    unfold gmO gmp
    rw [gmO_cg h1 h2 h3 g, h2, h3]
theorem gmR_cg {A B : Nat → Nat → Nat} {a n : Nat} (h : ∀ c, c = 192 ∨ c = 194 ∨ c = 199 ∨ c = 201 ∨ (205 ≤ c ∧ c ≤ 210) ∨ c = 212 ∨ c = 213 → B c = A c) : ∀ g, gmR B a n g = gmR A a n g
  | 0 => by
    show B 201 a = A 201 a
    rw [h 201 (by omega)]
  | g + 1 => by
    have e : ∀ r, tfM B a r n = tfM A a r n := fun r => by
      funext l i
      unfold tfM kvM
      rw [h 192 (by omega), h 194 (by omega), h 199 (by omega), h 207 (by omega), h 208 (by omega), h 209 (by omega)]
    unfold gmR gmp pctM
    rw [gmR_cg h g, h 192 (by omega), h 212 (by omega), h 213 (by omega), e, h 205 (by omega), h 206 (by omega), h 210 (by omega)]
section
variable {X : mX} {D : Nat} {G : mG} {A : Nat → Nat → Nat}
theorem nOT (h : Inv A) : okT A ∧ okTM A := by
  obtain ⟨t1, t2, t3⟩ := nT h
  refine ⟨⟨by omega, fun l hl => ?_⟩, t2, fun l hl => ?_⟩
  · obtain ⟨s1, s2, s3, s4, s5⟩ := t3 l (by omega)
    rw [s1, s3]
    refine ⟨s2, s4, fun i hi => ?_⟩
    obtain ⟨y1, y2, y3, y4, y5, y6, y7⟩ := s5 i hi
    exact ⟨y1, y2, by omega, by omega⟩
  · obtain ⟨s1, s2, s3, s4, s5⟩ := t3 l hl
    refine ⟨s2, s4, fun i hi => ?_⟩
    obtain ⟨y1, y2, y3, y4, y5, y6, y7⟩ := s5 i hi
    exact ⟨by omega, y6, y7⟩
theorem pct_eq (h : Inv A) {a r n : Nat} (ha : a < A 193 0) (hr : r < A 190 0) : pctC A (A 10 1) (A 4 r) (A 6 a) r n = pctM A a r n := by
  obtain ⟨t1, t2, t3⟩ := nT h
  have k3 := (nK h).2.2 a ha
  have r3 := (nR h).2.2 r hr
  have h1 := (nH h).1
  unfold pctC pctM
  rw [t1]
  refine pfA_cg _ _ (fun k _ hk => ?_)
  obtain ⟨s1, s2, s3, s4, s5⟩ := t3 k (by omega)
  refine ⟨?_, s1⟩
  rw [s3]
  refine ahU_cg _ (fun i hi => ?_)
  obtain ⟨y1, y2, y3, y4, y5, y6, y7⟩ := s5 i hi
  unfold tfM
  rw [y4, y5, y3, show (A 33 (4 * k + i) + 8 * A 36 (4 * k + i)) % 8 = A 33 (4 * k + i) by omega, show (A 33 (4 * k + i) + 8 * A 36 (4 * k + i)) / 8 = A 36 (4 * k + i) by omega]
  congr 1
  generalize A 33 (4 * k + i) = w at y1
  unfold kn5 kvM
  have : w = 0 ∨ w = 1 ∨ w = 2 ∨ w = 3 ∨ w = 4 := by omega
  rcases this with rfl | rfl | rfl | rfl | rfl
  · exact h1.2.2.1
  · exact r3.2.1
  · exact k3.1
  · rfl
  · rfl
theorem st_14 {a n : Nat} (hD : 20 ≤ D) (h : Inv A) (ha : a < 4294967296) (hn : n < 4294967296) : tdStp X D G A 91 [.ref 0, .int (tN a), .int (tN n)] 164 [.ref 185, .int (tN a), .int (tN n)] := by
  obtain ⟨r1, r2, r3⟩ := nR h
  obtain ⟨k1, k2, k3⟩ := nK h
  obtain ⟨h1, h2, h3, h4, h5, h6, h7, h8, h9⟩ := nH h
  obtain ⟨okt, oktm⟩ := nOT h
  have hl6 := h6.2.2.2.2.2
  have tk : ∀ a, a < 12 → ∀ k, k < A 212 a → A (18 + a) k = A 213 (6 * a + k) ∧ A 213 (6 * a + k) / 100 < A 190 0 ∧ A 213 (6 * a + k) % 100 < 12 ∧ A 213 (6 * a + k) < 600 := fun a ha k hk => by
    obtain ⟨y1, y2, y3, y4⟩ := nT' h a ha k hk
    exact ⟨h5 a k ha hk, y1, y4, y3⟩
  have emg : ∀ a, a < 12 → mgN (fun k => (A 13 (A (18 + a) k / 100)).testBit (A (18 + a) k % 100)) (A 14 a) = mgN (fun k => decide (A 204 (12 * (A 213 (6 * a + k) / 100) + A 213 (6 * a + k) % 100) = 1)) (A 212 a) := fun a ha => by
    rw [(h4 a ha).1]
    refine mgN_cg _ (fun k hk => ?_)
    obtain ⟨y1, y2, y3, y4⟩ := tk a ha k hk
    have z := (h8 (A 213 (6 * a + k) / 100) (by omega)).2.2 (A 213 (6 * a + k) % 100) y3
    rw [y1]
    by_cases c : (A 13 (A 213 (6 * a + k) / 100)).testBit (A 213 (6 * a + k) % 100) = true
    · rw [c, decide_eq_true (z.mp c)]
    · rw [decide_eq_false (fun y => c (z.mpr y))]
      simpa using c
  by_cases c : a < A 193 0 ∧ 1 ≤ n ∧ n ≤ mgN (fun k => decide (A 204 (12 * (A 213 (6 * a + k) / 100) + A 213 (6 * a + k) % 100) = 1)) (A 212 a)
  · obtain ⟨c1, c2, c3⟩ := c
    have ha12 : a < 12 := by omega
    have hmg := mgN_le (op := fun k => decide (A 204 (12 * (A 213 (6 * a + k) / 100) + A 213 (6 * a + k) % 100) = 1)) (A 212 a)
    have hH6 := hl6 a ha12
    have e14 := (h4 a ha12).1
    have h12 : ∀ r, r < A 190 0 → A 191 r ≤ 12 := fun r hr => (r3 r hr).2.2.2.1
    -- the places given back
    have gp : ∀ g, g < A 212 a → gbp A a g = gmp A a g ∧ gmp A a g / 100 < A 190 0 ∧ gmp A a g % 100 < 12 := fun g hg => by
      obtain ⟨y1, y2, y3, y4⟩ := tk a ha12 (A 212 a - 1 - g) (by omega)
      unfold gbp gmp
      rw [e14, y1]
      exact ⟨rfl, y2, y3⟩
    have hgi : ∀ g, g ≤ A 212 a → HI (A 190 0) (A 191) (gbF A a g) (up (A 212) a (A 212 a - g)) (fun a k => A 213 (6 * a + k)) (gmO A a g) := by
      intro g
      induction g with
      | zero =>
        intro _
        rw [show up (A 212) a (A 212 a - 0) = A 212 from up_id]
        exact h6
      | succ g ih =>
        intro hg
        have b := HI_back (a := a) r2 h12 ha12 (by rw [up_eq]; omega) (ih (by omega))
        rw [up_eq, up_up, show A 212 a - g - 1 = A 212 a - (g + 1) by omega] at b
        have ep : A 213 (6 * a + (A 212 a - (g + 1))) = gmp A a g := by
          unfold gmp
          rw [show A 212 a - (g + 1) = A 212 a - 1 - g by omega]
        simp only [ep] at b
        unfold gbF gmO
        rw [(gp g (by omega)).1]
        exact b
    have hmR : ∀ g, g ≤ A 212 a → gbR A a n g = gmR A a n g := by
      intro g
      induction g with
      | zero => intro _; exact (h4 a ha12).2.2.1
      | succ g ih =>
        intro hg
        obtain ⟨y1, y2, y3⟩ := gp g (by omega)
        unfold gbR gmR
        rw [ih (by omega), y1, pct_eq h c1 y2, (r3 _ y2).2.1]
    have hgO : ∀ g, g ≤ A 212 a → (∀ i, i < 72 → gmO A a g i = 4294967295 ∨ gmO A a g i < 12) ∧ (∀ i, 72 ≤ i → gmO A a g i = A 211 i) := by
      intro g
      induction g with
      | zero => intro _; exact ⟨fun i hi => (h7 i hi).1, fun _ _ => rfl⟩
      | succ g ih =>
        intro hg
        obtain ⟨i1, i2⟩ := ih (by omega)
        obtain ⟨y1, y2, y3⟩ := gp g (by omega)
        refine ⟨fun i hi => ?_, fun i hi => ?_⟩
        · show up (gmO A a g) _ _ i = _ ∨ up (gmO A a g) _ _ i < _
          unfold up
          split
          · exact .inl rfl
          · exact i1 i hi
        · show up (gmO A a g) _ _ i = _
          rw [up_ne (by omega)]
          exact i2 i hi
    -- the class
    obtain ⟨K, cl⟩ := c_91 (X := X) (D := D) (G := G) (A := A) (a := a) (n := n) (by omega) (nA h) okt (by omega) c2 (by rw [emg a ha12]; exact c3) (by omega) (by rw [e14]; exact fun k hk => by obtain ⟨y1, y2, y3, y4⟩ := tk a ha12 k hk; rw [y1]; exact ⟨y4, y3⟩) (fun r hr => (h8 r hr).1) (by
      rw [e14]
      rintro r hr ⟨k, q1, q2⟩
      obtain ⟨y1, y2, y3, y4⟩ := tk a ha12 k q1
      rw [y1] at q2
      rw [← q2, (r3 _ y2).2.1]
      exact (r3 _ y2).2.2.2.2) (by omega) (by rw [r1]; exact fun r hr => by rw [(r3 r hr).1]; exact (hgi n (by omega)).1 r hr) (by omega) (by rw [h1.2.2.2.2.1, k1]; exact fun k hk => by rw [(h2 k hk).1]; exact (h2 k hk).2.1)
    have c3' : cg3 (A 4) (A 192) (A 6) (A 194) (A 7) (A 195) (A 9) (A 197) (A 11) (A 203) (A 190 0) (A 202 0) := ⟨fun r hr => (r3 r hr).2.1, fun k hk => by
      obtain ⟨y1, y2, y3⟩ := h2 k hk
      obtain ⟨z1, z2, z3, z4, -⟩ := k3 _ y2
      rw [y1]
      exact ⟨rfl, z1, z2, z4⟩⟩
    rw [r1, h1.2.2.2.2.1, rnQ_c3 c3' _ (Nat.le_refl _)] at cl
    -- the class's state, told by the model's numbers
    generalize hB : gbW A (up (A 14) a (A 14 a - n)) (gbF A a n) (up (A 16) a (gbR A a n n)) K = B at cl
    have bo : ∀ c, c ≠ 14 → c ≠ 12 → c ≠ 16 → c ≠ 37 → B c = A c := fun c z1 z2 z3 z4 => by rw [← hB, gb_o ⟨z1, z2, z3, z4⟩]
    have b12 : B 12 = gbF A a n := by rw [← hB, gb_12]
    have b14 : B 14 = up (A 14) a (A 14 a - n) := by rw [← hB, gb_14]
    have b16 : B 16 = up (A 16) a (gbR A a n n) := by rw [← hB, gb_16]
    have eC : bkL B = hallA B (A 10 0) (rnQ (A 192) (A 190 0) (A 194) (A 195) (A 197) (gbF A a n) (A 203) (A 202 0)) (rnL (A 192) (A 190 0) (A 194) (A 195) (A 197) (gbF A a n) (A 203) (A 11) (A 202 0)) (rnF (A 192) (A 190 0) (A 194) (A 195) (A 197) (gbF A a n) (A 203) (A 202 0)) (rnH (A 192) (A 190 0) (A 194) (A 195) (A 197) (gbF A a n) (A 203) (B 14) (A 202 0)) (rnP (A 4) (A 190 0) (A 6) (A 7) (A 9) (gbF A a n) (A 11) (fun a => B (18 + a)) (A 15) (A 202 0)) (rnK (A 192) (A 190 0) (A 194) (A 195) (A 197) (gbF A a n) (A 203) (fun a => B (18 + a)) (A 202 0)) := by
      unfold bkL
      rw [b12, bo 2 (by decide) (by decide) (by decide) (by decide), bo 4 (by decide) (by decide) (by decide) (by decide), bo 6 (by decide) (by decide) (by decide) (by decide), bo 7 (by decide) (by decide) (by decide) (by decide), bo 9 (by decide) (by decide) (by decide) (by decide), bo 10 (by decide) (by decide) (by decide) (by decide), bo 11 (by decide) (by decide) (by decide) (by decide), bo 15 (by decide) (by decide) (by decide) (by decide), r1, h1.2.2.2.2.1, rnQ_c3 c3' _ (Nat.le_refl _), rnL_c3 c3' _ (Nat.le_refl _), rnF_c3 c3' _ (Nat.le_refl _), rnH_c3 c3' _ (Nat.le_refl _), rnK_c3 c3' _ (Nat.le_refl _)]
    generalize hE : bkL B = E at cl eC
    have qc : ∀ c, (c < 10 ∨ 29 < c) → c ≠ 37 → E c = A c := fun c z1 z2 => by rw [eC, hr_o (by omega), bo c (by omega) (by omega) (by omega) (by omega)]
    generalize hC : gmA E a n = C
    have co : ∀ c, (c < 10 ∨ 29 < c) → c ≠ 37 → c ≠ 185 → c ≠ 212 → c ≠ 211 → c ≠ 201 → C c = A c := fun c z1 z2 z3 z4 z5 z6 => by
      rw [← hC]
      unfold gmA
      rw [gm_o ⟨z4, z5, z6⟩, zA z3, qc c z1 z2]
    have cc : ∀ c, 10 ≤ c → c ≤ 29 → C c = E c := fun c z1 z2 => by
      rw [← hC]
      unfold gmA
      rw [gm_o (by omega), zA (by omega)]
    have c212 : C 212 = up (A 212) a (A 212 a - n) := by
      rw [← hC]
      unfold gmA
      rw [gm_212, qc 212 (by omega) (by omega)]
    have c211 : C 211 = gmO A a n := by
      rw [← hC]
      unfold gmA
      rw [gm_211]
      exact gmO_cg (by rw [zA (by decide), qc 211 (by omega) (by omega)]) (by rw [zA (by decide), qc 212 (by omega) (by omega)]) (by rw [zA (by decide), qc 213 (by omega) (by omega)]) n
    have c201 : C 201 = up (A 201) a (gmR A a n n) := by
      rw [← hC]
      unfold gmA
      rw [gm_201, qc 201 (by omega) (by omega), gmR_cg (fun c hc => by rw [zA (by omega), qc c (by omega) (by omega)]) n]
    have g190 := co 190 (by omega) (by omega) (by omega) (by omega) (by omega) (by omega)
    have g191 := co 191 (by omega) (by omega) (by omega) (by omega) (by omega) (by omega)
    have g192 := co 192 (by omega) (by omega) (by omega) (by omega) (by omega) (by omega)
    have g193 := co 193 (by omega) (by omega) (by omega) (by omega) (by omega) (by omega)
    have g194 := co 194 (by omega) (by omega) (by omega) (by omega) (by omega) (by omega)
    have g195 := co 195 (by omega) (by omega) (by omega) (by omega) (by omega) (by omega)
    have g197 := co 197 (by omega) (by omega) (by omega) (by omega) (by omega) (by omega)
    have g213 := co 213 (by omega) (by omega) (by omega) (by omega) (by omega) (by omega)
    have hne : ∀ k, k < A 202 0 → A 203 k ≠ a := fun k hk z => by
      have := (h2 k hk).2.2
      rw [z] at this
      omega
    have hz : ∀ k, k < A 202 0 → C 212 (A 203 k) = 0 := fun k hk => by
      rw [c212, up_ne (hne k hk)]
      exact (h2 k hk).2.2
    have hle : ∀ x, x < 12 → C 212 x ≤ A 212 x := fun x hx => by
      rw [c212]
      by_cases z : x = a
      · rw [z, up_eq]; omega
      · rw [up_ne z]; exact Nat.le_refl _
    have run := run_ok (A := C) (F0 := gbF A a n) (ord := A 203) (H0 := B 14) (T0 := fun a => B (18 + a)) (m := A 202 0) (okM_cg (fun c z1 z2 => co c (by omega) (by omega) (by omega) (by omega) (by omega) (by omega)) (nM' h)) (by rw [g193]; exact fun k hk => (h2 k hk).2.1) h3 hz (by
      rw [g190, g191, g213, c211, c212]
      exact hgi n (by omega)) (by rw [c211]; exact (hgO n (by omega)).1) (fun x hx => by
      rw [b14, c212, e14]
      by_cases z : x = a
      · rw [z, up_eq, up_eq]
      · rw [up_ne z, up_ne z]; exact (h4 x hx).1) (fun x i hx hi => by
      have := hle x hx
      show B (18 + x) i = _
      rw [bo (18 + x) (by omega) (by omega) (by omega) (by omega), g213]
      exact h5 x i hx (by omega))
    have md := fun P => m_164 (X := X) (D := D) (P := P) (G := G) (A := E) (F0 := gbF A a n) (H0 := B 14) (T0 := fun a => B (18 + a)) (a := a) (n := n) (by omega) (okM_cg (fun c z1 z2 => qc c (by omega) (by omega)) (nM' h)) (by
      unfold okTM at *
      rw [qc 205 (by omega) (by omega), qc 206 (by omega) (by omega), qc 207 (by omega) (by omega), qc 208 (by omega) (by omega), qc 209 (by omega) (by omega), qc 210 (by omega) (by omega)]
      exact oktm) (by rw [qc 193 (by omega) (by omega)]; exact c1) c2 (by rw [qc 204 (by omega) (by omega), qc 212 (by omega) (by omega), qc 213 (by omega) (by omega)]; exact c3) (by rw [qc 212 (by omega) (by omega)]; exact hH6) (by
      rw [qc 212 (by omega) (by omega), qc 213 (by omega) (by omega)]
      intro k hk
      obtain ⟨y1, y2, y3, y4⟩ := tk a ha12 k hk
      exact ⟨y4, y3⟩) (by rw [qc 204 (by omega) (by omega)]; exact fun i hi => (h7 i hi).2) (by
      rw [qc 212 (by omega) (by omega), qc 213 (by omega) (by omega), qc 192 (by omega) (by omega)]
      rintro r hr ⟨k, q1, q2⟩
      obtain ⟨y1, y2, y3, y4⟩ := tk a ha12 k q1
      rw [← q2]
      exact (r3 _ y2).2.2.2.2) (by rw [qc 199 (by omega) (by omega)]; exact h1.2.2.2.1) (by rw [qc 202 (by omega) (by omega)]; exact h1.2.2.2.2.2) (by rw [qc 202 (by omega) (by omega), qc 203 (by omega) (by omega), qc 193 (by omega) (by omega)]; exact fun k hk => (h2 k hk).2.1) (by rw [qc 202 (by omega) (by omega), qc 203 (by omega) (by omega)]; exact h3) (by rw [qc 202 (by omega) (by omega), qc 203 (by omega) (by omega), hC]; exact run) (by rw [qc 202 (by omega) (by omega), qc 203 (by omega) (by omega), hC]; exact hz)
    rw [qc 190 (by omega) (by omega), qc 192 (by omega) (by omega), qc 194 (by omega) (by omega), qc 195 (by omega) (by omega), qc 197 (by omega) (by omega), qc 202 (by omega) (by omega), qc 203 (by omega) (by omega), hC] at md
    refine ⟨_, E, bkM C (gbF A a n) (A 203) (A 202 0), G, cl, md, ?_⟩
    generalize hA2 : bkM C (gbF A a n) (A 203) (A 202 0) = A2
    unfold bkM at hA2
    rw [g190, g192, g194, g195, g197] at hA2
    obtain ⟨v1, v2, v3, v4, v5, v6⟩ := run (A 202 0) (Nat.le_refl _)
    rw [g190, g191, g192, g194, g195, g197] at v1
    rw [g190, g192, g194, g195, g197] at v3 v4 v6
    have a2 : ∀ c, c ≠ 200 → c ≠ 201 → c ≠ 202 → c ≠ 203 → A2 c = rmA C (gbF A a n) (A 203) (A 202 0) c := fun c z2 z3 z4 z5 => by rw [← hA2, se_o ⟨z2, z3, z4, z5⟩]
    have a200 : A2 200 = bkP C (gbF A a n) (A 203) (A 202 0) := by rw [← hA2, se_200]
    have a201 : A2 201 = C 201 := by rw [← hA2, se_201]
    have a203 : A2 203 = rnL (A 192) (A 190 0) (A 194) (A 195) (A 197) (gbF A a n) (A 203) (A 203) (A 202 0) := by rw [← hA2, se_203]
    have a202 : A2 202 0 = rnQ (A 192) (A 190 0) (A 194) (A 195) (A 197) (gbF A a n) (A 203) (A 202 0) := by rw [← hA2, se_202]
    have a202i : ∀ i, i ≠ 0 → A2 202 i = A 202 i := fun i hi => by
      rw [← hA2]
      show (if i = 0 then _ else rmA C (gbF A a n) (A 203) (A 202 0) 202 i) = _
      rw [if_neg hi, rmA_o (by decide) (by decide) (by decide), co 202 (by omega) (by omega) (by omega) (by omega) (by omega) (by omega)]
    clear hA2
    have m2 : ∀ c, (c < 10 ∨ 29 < c) → c ≠ 37 → c ≠ 185 → c ≠ 200 → c ≠ 201 → c ≠ 202 → c ≠ 203 → c ≠ 211 → c ≠ 212 → c ≠ 213 → A2 c = A c := fun c z1 z2 z3 z4 z5 z6 z7 z8 z9 z10 => by rw [a2 c z4 z5 z6 z7, rmA_o z8 z9 z10, co c z1 z2 z3 z9 z8 z5]
    have mc : ∀ c, 10 ≤ c → c ≤ 29 → A2 c = E c := fun c z1 z2 => by rw [a2 c (by omega) (by omega) (by omega) (by omega), rmA_o (by omega) (by omega) (by omega), cc c z1 z2]
    have c10 : ∀ i, A2 10 i = if i = 0 then A 10 0 else if i = 2 then rnQ (A 192) (A 190 0) (A 194) (A 195) (A 197) (gbF A a n) (A 203) (A 202 0) else A 10 i := fun i => by
      rw [mc 10 (by omega) (by omega), eC]
      show (if i = 0 then A 10 0 else if i = 2 then _ else B 10 i) = _
      rw [bo 10 (by decide) (by decide) (by decide) (by decide)]
    have c11 : A2 11 = rnL (A 192) (A 190 0) (A 194) (A 195) (A 197) (gbF A a n) (A 203) (A 11) (A 202 0) := by rw [mc 11 (by omega) (by omega), eC, hr_11]
    have c12 : A2 12 = rnF (A 192) (A 190 0) (A 194) (A 195) (A 197) (gbF A a n) (A 203) (A 202 0) := by rw [mc 12 (by omega) (by omega), eC, hr_12]
    have c14 : A2 14 = rnH (A 192) (A 190 0) (A 194) (A 195) (A 197) (gbF A a n) (A 203) (B 14) (A 202 0) := by rw [mc 14 (by omega) (by omega), eC, hr_14]
    have c15 : A2 15 = rnP (A 4) (A 190 0) (A 6) (A 7) (A 9) (gbF A a n) (A 11) (fun a => B (18 + a)) (A 15) (A 202 0) := by rw [mc 15 (by omega) (by omega), eC, hr_15]
    have ct : ∀ x, x < 12 → A2 (18 + x) = rnK (A 192) (A 190 0) (A 194) (A 195) (A 197) (gbF A a n) (A 203) (fun a => B (18 + a)) (A 202 0) x := fun x hx => by rw [mc (18 + x) (by omega) (by omega), eC, hr_t hx]
    have c13 : A2 13 = A 13 := by rw [mc 13 (by omega) (by omega), eC, hr_o (by omega), bo 13 (by decide) (by decide) (by decide) (by decide)]
    have c16 : A2 16 = up (A 16) a (gbR A a n n) := by rw [mc 16 (by omega) (by omega), eC, hr_o (by omega), b16]
    have ord12 : ∀ k, k < A 202 0 → A 203 k < 12 := fun k hk => by have := (h2 k hk).2.1; omega
    have hT : ∀ k, k < A 202 0 → ∀ i, i < rnN (A 192) (A 190 0) (A 194) (A 195) (A 197) (gbF A a n) (A 203) k → rnT (A 192) (A 190 0) (A 194) (A 195) (A 197) (gbF A a n) (A 203) k (rnK (A 192) (A 190 0) (A 194) (A 195) (A 197) (gbF A a n) (A 203) (fun a => B (18 + a)) k (A 203 k)) i = rmA C (gbF A a n) (A 203) (k + 1) 213 (6 * A 203 k + i) ∧ rmA C (gbF A a n) (A 203) (k + 1) 213 (6 * A 203 k + i) / 100 < A 190 0 := fun k hk i hi => by
      obtain ⟨x1, x2, x3, x4, x5, x6⟩ := run (k + 1) (by omega)
      rw [g190, g191, g192, g194, g195, g197] at x1
      rw [g190, g192, g194, g195, g197] at x4 x6
      have hi2 : i < rmA C (gbF A a n) (A 203) (k + 1) 212 (A 203 k) := by rw [x6 k (by omega)]; exact hi
      have e1 := x4 (A 203 k) i (ord12 k hk) hi2
      rw [rnK_0 h3 (k + 1) (by omega) (by omega)] at e1
      exact ⟨e1, (x1.2.2.2.1 (A 203 k) i (ord12 k hk) hi2).1⟩
    have pay : ∀ k, k ≤ A 202 0 → ∀ x, x < 12 → rnP (A 4) (A 190 0) (A 6) (A 7) (A 9) (gbF A a n) (A 11) (fun a => B (18 + a)) (A 15) k x = bkP C (gbF A a n) (A 203) k x := by
      intro k
      induction k with
      | zero =>
        intro _ x hx
        show A 15 x = C 200 x
        rw [co 200 (by omega) (by omega) (by omega) (by omega) (by omega) (by omega), (h4 x hx).2.1]
      | succ k ih =>
        intro hk x hx
        have e0 := (c3'.2 k (by omega)).1
        show up (rnP (A 4) (A 190 0) (A 6) (A 7) (A 9) (gbF A a n) (A 11) (fun a => B (18 + a)) (A 15) k) (A 11 k) _ x = (if 0 < rnN (C 192) (C 190 0) (C 194) (C 195) (C 197) (gbF A a n) (A 203) k then up (bkP C (gbF A a n) (A 203) k) (A 203 k) (bkP C (gbF A a n) (A 203) k (A 203 k) + psm (C 192) (fun i => rmA C (gbF A a n) (A 203) (k + 1) 213 (6 * A 203 k + i)) (rmA C (gbF A a n) (A 203) (k + 1) 212 (A 203 k))) else bkP C (gbF A a n) (A 203) k) x
        obtain ⟨x1, x2, x3, x4, x5, x6⟩ := run (k + 1) (by omega)
        have x6k := x6 k (by omega)
        rw [x6k, g190, g192, g194, g195, g197, rnN_c3 c3' (show k < A 202 0 by omega), rnT_c3 c3' (show k < A 202 0 by omega), rnK_c3 c3' k (by omega), e0]
        have ps : psm (A 4) (rnT (A 192) (A 190 0) (A 194) (A 195) (A 197) (gbF A a n) (A 203) k (rnK (A 192) (A 190 0) (A 194) (A 195) (A 197) (gbF A a n) (A 203) (fun a => B (18 + a)) k (A 203 k))) (rnN (A 192) (A 190 0) (A 194) (A 195) (A 197) (gbF A a n) (A 203) k) = psm (A 192) (fun i => rmA C (gbF A a n) (A 203) (k + 1) 213 (6 * A 203 k + i)) (rnN (A 192) (A 190 0) (A 194) (A 195) (A 197) (gbF A a n) (A 203) k) := psm_cg _ (fun i hi => by
          obtain ⟨y1, y2⟩ := hT k (by omega) i hi
          rw [y1]
          exact (r3 _ y2).2.1)
        rw [ps]
        have ih0 := ih (by omega)
        by_cases z : 0 < rnN (A 192) (A 190 0) (A 194) (A 195) (A 197) (gbF A a n) (A 203) k
        · rw [if_pos z]
          unfold up
          split
          · rw [ih0 _ (ord12 k (by omega))]
          · exact ih0 x hx
        · rw [if_neg z, show rnN (A 192) (A 190 0) (A 194) (A 195) (A 197) (gbF A a n) (A 203) k = 0 by omega]
          show up _ (A 203 k) (rnP (A 4) (A 190 0) (A 6) (A 7) (A 9) (gbF A a n) (A 11) (fun a => B (18 + a)) (A 15) k (A 203 k) + 0) x = _
          rw [Nat.add_zero, up_id]
          exact ih0 x hx
    have ln := rnL_ok (F0 := gbF A a n) (ord := A 203) (m := A 202 0) (pr := A 192) (nr := A 190 0) (sz := A 194) (mo := A 195) (pt := A 197) (L := A 203) h3 (A 202 0) (Nat.le_refl _)
    have n1 : nM 198 = 1 ∧ nM 199 = 1 ∧ nM 202 = 1 ∧ nM 200 = 12 ∧ nM 201 = 12 ∧ nM 203 = 12 ∧ nM 204 = 72 ∧ nM 211 = 72 ∧ nM 212 = 12 ∧ nM 213 = 72 := by decide
    have hiP : ∀ k, k ≤ A 202 0 → ∀ i, 12 ≤ i → bkP C (gbF A a n) (A 203) k i = A 200 i := by
      intro k
      induction k with
      | zero =>
        intro _ i _
        show C 200 i = _
        rw [co 200 (by omega) (by omega) (by omega) (by omega) (by omega) (by omega)]
      | succ k ih =>
        intro hk i hi
        have := ord12 k (by omega)
        show (if _ then up (bkP C (gbF A a n) (A 203) k) (A 203 k) _ else bkP C (gbF A a n) (A 203) k) i = _
        split
        · rw [up_ne (by omega)]
          exact ih (by omega) i hi
        · exact ih (by omega) i hi
    have hiM : ∀ k, k ≤ A 202 0 → (∀ i, 72 ≤ i → rmA C (gbF A a n) (A 203) k 211 i = A 211 i) ∧ (∀ i, 12 ≤ i → rmA C (gbF A a n) (A 203) k 212 i = A 212 i) ∧ (∀ i, 72 ≤ i → rmA C (gbF A a n) (A 203) k 213 i = A 213 i) := by
      intro k
      induction k with
      | zero =>
        intro _
        refine ⟨fun i hi => ?_, fun i hi => ?_, fun i hi => ?_⟩
        · show C 211 i = _
          rw [c211]; exact (hgO n (by omega)).2 i hi
        · show C 212 i = _
          rw [c212, up_ne (by omega)]
        · show C 213 i = _
          rw [g213]
      | succ k ih =>
        intro hk
        obtain ⟨j1, j2, j3⟩ := ih (by omega)
        have ho := (h2 k (by omega)).2.1
        have ho12 := ord12 k (by omega)
        obtain ⟨s1, s2, s3, s4⟩ := (nM' h).2.2.2.2 (A 203 k) ho
        have rk1 := (run k (by omega)).1
        rw [g190, g191, g192, g194, g195, g197] at rk1
        have tp : ∀ j, j < rnN (A 192) (A 190 0) (A 194) (A 195) (A 197) (gbF A a n) (A 203) k → posN 0 (rnPl C (gbF A a n) (A 203) k) j < 72 := by
          intro j hj
          obtain ⟨y1, y2, y3, y4⟩ := ttP_ok (w := A 191) s1 s2 r2 h12 rk1.1 hj
          unfold posN rnPl
          rw [g190, g192, g194, g195, g197]
          have := h12 _ y1
          omega
        have hN : rnN (A 192) (A 190 0) (A 194) (A 195) (A 197) (gbF A a n) (A 203) k ≤ 6 := by
          rcases ttN_le (pr := A 192) (F := rnF (A 192) (A 190 0) (A 194) (A 195) (A 197) (gbF A a n) (A 203) k) (sz := A 194 (A 203 k)) (most := A 195 (A 203 k)) (pt := A 197 (A 203 k)) (nr := A 190 0) with q | q
          · unfold rnN; omega
          · unfold rnN; omega
        refine ⟨fun i hi => ?_, fun i hi => ?_, fun i hi => ?_⟩
        · rw [rm_211, g190, g192, g194, g195, g197, oSet_miss _ (fun j hj z => by have := tp j hj; omega)]
          exact j1 i hi
        · rw [rm_212, up_ne (by omega)]
          exact j2 i hi
        · rw [rm_213, g190, g192, g194, g195, g197, if_neg (by omega)]
          exact j3 i hi
    obtain ⟨mi1, mi2, mi3⟩ := hiM (A 202 0) (Nat.le_refl _)
    refine Inv_hall h (fun c z1 z2 _ z3 _ z4 z5 => m2 c z1 z2 z3 (by omega) (by omega) (by omega) (by omega) (by omega) (by omega) (by omega)) (fun c hc i hi1 hi2 => ?_) ?_
    · have hc' : c = 198 ∨ c = 199 ∨ c = 200 ∨ c = 201 ∨ c = 202 ∨ c = 203 ∨ c = 204 ∨ c = 211 ∨ c = 212 ∨ c = 213 := by omega
      rcases hc' with rfl | rfl | rfl | rfl | rfl | rfl | rfl | rfl | rfl | rfl
      · rw [m2 198 (by omega) (by omega) (by omega) (by omega) (by omega) (by omega) (by omega) (by omega) (by omega) (by omega)]
      · rw [m2 199 (by omega) (by omega) (by omega) (by omega) (by omega) (by omega) (by omega) (by omega) (by omega) (by omega)]
      · rw [a200]; exact hiP _ (Nat.le_refl _) i (by omega)
      · rw [a201, c201, up_ne (by omega)]
      · exact a202i i (by omega)
      · rw [a203]; exact rnL_hi _ (by have := h1.2.2.2.2.2; omega)
      · rw [m2 204 (by omega) (by omega) (by omega) (by omega) (by omega) (by omega) (by omega) (by omega) (by omega) (by omega)]
      · rw [a2 211 (by omega) (by omega) (by omega) (by omega)]; exact mi1 i (by omega)
      · rw [a2 212 (by omega) (by omega) (by omega) (by omega)]; exact mi2 i (by omega)
      · rw [a2 213 (by omega) (by omega) (by omega) (by omega)]; exact mi3 i (by omega)
    · have hQ := rnQ_le (A 202 0) (pr := A 192) (nr := A 190 0) (sz := A 194) (mo := A 195) (pt := A 197) (F0 := gbF A a n) (ord := A 203)
      have key : (A2 10 0 = A2 198 0 ∧ A2 198 0 ≤ 1 ∧ A2 10 1 = A2 199 0 ∧ A2 199 0 ≤ 30 ∧ A2 10 2 = A2 202 0 ∧ A2 202 0 ≤ 12) ∧ (∀ k, k < A2 202 0 → A2 11 k = A2 203 k ∧ A2 203 k < A2 193 0 ∧ A2 212 (A2 203 k) = 0) ∧ (∀ i k, i < k → k < A2 202 0 → A2 203 i ≠ A2 203 k) ∧ (∀ a, a < 12 → A2 14 a = A2 212 a ∧ A2 15 a = A2 200 a ∧ A2 16 a = A2 201 a ∧ (A2 193 0 ≤ a → A2 212 a = 0)) ∧ (∀ a k, a < 12 → k < A2 212 a → A2 (18 + a) k = A2 213 (6 * a + k)) ∧ HI (A2 190 0) (A2 191) (A2 12) (A2 212) (fun a k => A2 213 (6 * a + k)) (A2 211) ∧ (∀ i, i < 72 → (A2 211 i = 4294967295 ∨ A2 211 i < 12) ∧ A2 204 i ≤ 1) ∧ (∀ r, r < 6 → A2 13 r < 4096 ∧ (A2 190 0 ≤ r → A2 13 r = 0) ∧ ∀ j, j < 12 → ((A2 13 r).testBit j = true ↔ A2 204 (12 * r + j) = 1)) ∧ (A2 198 0 = 0 → A2 202 0 = 0 ∧ (∀ i, i < 72 → A2 211 i = 4294967295 ∧ A2 204 i = 0) ∧ (∀ a, a < 12 → A2 212 a = 0 ∧ A2 200 a = 0 ∧ A2 201 a = 0)) := by
        rw [a202, a203, c11, c12, c13, c14, c15, c16, a200, a201, c201, m2 190 (by omega) (by omega) (by omega) (by omega) (by omega) (by omega) (by omega) (by omega) (by omega) (by omega), m2 191 (by omega) (by omega) (by omega) (by omega) (by omega) (by omega) (by omega) (by omega) (by omega) (by omega), m2 193 (by omega) (by omega) (by omega) (by omega) (by omega) (by omega) (by omega) (by omega) (by omega) (by omega), m2 198 (by omega) (by omega) (by omega) (by omega) (by omega) (by omega) (by omega) (by omega) (by omega) (by omega), m2 199 (by omega) (by omega) (by omega) (by omega) (by omega) (by omega) (by omega) (by omega) (by omega) (by omega), m2 204 (by omega) (by omega) (by omega) (by omega) (by omega) (by omega) (by omega) (by omega) (by omega) (by omega), a2 211 (by omega) (by omega) (by omega) (by omega), a2 212 (by omega) (by omega) (by omega) (by omega), a2 213 (by omega) (by omega) (by omega) (by omega), c10 0, c10 1, c10 2]
        refine ⟨⟨h1.1, h1.2.1, h1.2.2.1, h1.2.2.2.1, rfl, by omega⟩, fun k hk => ?_, ln.2, fun x hx => ⟨v3 x hx, pay _ (Nat.le_refl _) x hx, ?_, fun z => ?_⟩, fun x k hx hk => ?_, v1, fun i hi => ⟨v2 i hi, (h7 i hi).2⟩, h8, fun z => ?_⟩
        · obtain ⟨j, j1, j2, j3⟩ := ln.1 k hk
          refine ⟨rnL_in (A 202 0) k hk, ?_, ?_⟩
          · rw [j2]; exact (h2 j j1).2.1
          · rw [j2, v6 j j1]; exact j3
        · by_cases z : x = a
          · rw [z, up_eq, up_eq]; exact hmR n (by omega)
          · rw [up_ne z, up_ne z]; exact (h4 x hx).2.2.1
        · rw [v5 x (fun j hj y => by have := (h2 j hj).2.1; omega), c212, up_ne (by omega)]
          exact (h4 x hx).2.2.2 z
        · rw [ct x hx]
          exact v4 x k hx hk
        · have := (h9 z).2.2 a ha12
          omega
      exact key
  · have w1 : ∀ a, a < A 5 0 → ∀ k, k < A 14 a → A (18 + a) k < 600 ∧ A (18 + a) k % 100 < 12 := by
      rw [k1]
      intro a ha k hk
      rw [(h4 a (by omega)).1] at hk
      obtain ⟨y1, y2, y3, y4⟩ := tk a (by omega) k hk
      rw [y1]
      exact ⟨y4, y3⟩
    have w2 : ∀ a, a < A 193 0 → ∀ k, k < A 212 a → A 213 (6 * a + k) < 600 ∧ A 213 (6 * a + k) % 100 < 12 := by
      intro a ha k hk
      obtain ⟨y1, y2, y3, y4⟩ := tk a (by omega) k hk
      exact ⟨y4, y3⟩
    exact ⟨_, A, aU A 185 0 0, G, fun P => c_91n (by omega) ha hn (by omega) (hd_6 h).1 w1 (fun r hr => (h8 r hr).1) (fun z => c ⟨by omega, z.2.1, by rw [← emg a (by omega)]; exact z.2.2⟩), fun P => m_164n (by omega) ha hn k2 (fun a ha => hl6 a (by omega)) w2 (fun i hi => (h7 i hi).2) c, Inv_185 h⟩
end

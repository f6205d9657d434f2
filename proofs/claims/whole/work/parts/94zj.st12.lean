set_option maxRecDepth 20000
set_option maxHeartbeats 4000000
/-! TERMS: the step -/
section
variable {X : mX} {D : Nat} {G : mG} {A A' E A1 B' : Nat → Nat → Nat} {b : Nat → Nat} {L fk fp n' : Nat}
/-- the one side's end -/
def clE (A' : Nat → Nat → Nat) (fk fp n : Nat) : Nat → Nat → Nat := aU (aU (aU (rdW A' fk fp n) 1 5 fk) 1 6 fp) 38 0 0
theorem clE_o {c : Nat} (h1 : c ≠ 1) (h2 : c ≠ 38) (h3 : c ≠ 172) : clE A' fk fp n' c = A' c := by
  unfold clE
  rw [aU_nf h2, aU_nf h1, aU_nf h1, rq_o h3]
theorem clE_1 : clE A' fk fp n' 1 5 = fk ∧ clE A' fk fp n' 1 6 = fp ∧ clE A' fk fp n' 38 0 = 0 := by
  unfold clE
  refine ⟨?_, ?_, aU_eq⟩
  · rw [aU_ne (by decide), aU_ne2 (by decide), aU_eq]
  · rw [aU_ne (by decide), aU_eq]
def clF (E : Nat → Nat → Nat) : Nat → Nat → Nat := aF (aF (aF (aF (aF (aF (aU E 30 0 (E 173 0)) 31 (cpF 12 (E 174) (E 31))) 32 (cpF 12 (E 175) (E 32))) 33 (cpF 48 (E 176) (E 33))) 34 (cpF 48 (E 177) (E 34))) 35 (cpF 48 (E 178) (E 35))) 36 (cpF 48 (E 179) (E 36))
theorem clF_o {c : Nat} (h : c < 30 ∨ 36 < c) : clF E c = E c := by
  unfold clF
  rw [aF_nf (by omega), aF_nf (by omega), aF_nf (by omega), aF_nf (by omega), aF_nf (by omega), aF_nf (by omega), aU_nf (by omega)]
theorem clF_30 : clF E 30 0 = E 173 0 := by
  unfold clF
  rw [aF_ne (by decide), aF_ne (by decide), aF_ne (by decide), aF_ne (by decide), aF_ne (by decide), aF_ne (by decide), aU_eq]
theorem clF_31 {i : Nat} (h : i < 12) : clF E 31 i = E 174 i := by
  unfold clF
  rw [aF_ne (by decide), aF_ne (by decide), aF_ne (by decide), aF_ne (by decide), aF_ne (by decide), aF_eq, cpF_in h]
theorem clF_32 {i : Nat} (h : i < 12) : clF E 32 i = E 175 i := by
  unfold clF
  rw [aF_ne (by decide), aF_ne (by decide), aF_ne (by decide), aF_ne (by decide), aF_eq, cpF_in h]
theorem clF_33 {i : Nat} (h : i < 48) : clF E 33 i = E 176 i := by
  unfold clF
  rw [aF_ne (by decide), aF_ne (by decide), aF_ne (by decide), aF_eq, cpF_in h]
theorem clF_34 {i : Nat} (h : i < 48) : clF E 34 i = E 177 i := by
  unfold clF
  rw [aF_ne (by decide), aF_ne (by decide), aF_eq, cpF_in h]
theorem clF_35 {i : Nat} (h : i < 48) : clF E 35 i = E 178 i := by
  unfold clF
  rw [aF_ne (by decide), aF_eq, cpF_in h]
theorem clF_36 {i : Nat} (h : i < 48) : clF E 36 i = E 179 i := by
  unfold clF
  rw [aF_eq, cpF_in h]
theorem st_12 (hD : 20 ≤ D) (h : Inv A) : tdStp X D G A 54 [.ref 0] 153 [.ref 185] := by
  obtain ⟨t1, t2, t3⟩ := nP h
  obtain ⟨b, hb⟩ : ∃ b, A 39 = b := ⟨_, rfl⟩
  obtain ⟨L, hL⟩ : ∃ L, A 187 0 = L := ⟨_, rfl⟩
  rw [hL] at t1 t2 t3
  rw [hb] at t3
  obtain ⟨A', fk, fp, n', t', f1, f2, f3, e55, f5⟩ := sim_R (X := X) (D := D - 1) (D2 := D - 1) (cap2 := (mSh.length + (mAl 153).fst, mSum mSh + (mAl 153).snd)) (G := G) (A := A) (b := b) (L := L) (by omega) (by omega) hb t1 t2 (fun x hx => (t3 x hx).1)
  have c54 := fun P => c_54 (X := X) (D := D) (P := P) (G := G) (by omega) f2 e55
  -- the other side, from whatever end of the one
  have go : ∀ A1 : Nat → Nat → Nat, A1 186 = A 186 → A1 187 = A 187 → (∀ P, mCall X D 153 [.ref 185] (mN (A1), RF, G, mSh) P = mW (mCall X (D - 1)) X (mSh.length + (mAl 153).fst, mSum mSh + (mAl 153).snd) 153 P 62 [.ref 185, .int (tN 1), .null, .null] [] (mN (mT (mm0 A1 L) b L (tkS b L 0)), RF, moQ G b L (tkS b L 0), mSh)) ∧ mdO (mm0 A1 L) b L 0 4294967295 0 := by
    intro A1 h6 h7
    refine ⟨fun P => mm_0 (by omega) (by rw [h7]; exact hL) t2 (by rw [h6]; exact t3), ⟨t2, mm0_31, fun i hi => ?_⟩, mm0_37, fun q => absurd rfl q, mm0_39⟩
    rw [mm0_o (by decide) (by decide) (by decide) (by decide), h6]
    exact t3 i hi
  obtain ⟨z1, z2, z3⟩ := clE_1 (A' := A') (fk := fk) (fp := fp) (n' := n')
  have hE : ∀ c, c ≠ 1 → c ≠ 38 → c < 172 ∨ c = 180 ∨ 184 < c → clE A' fk fp n' c = A c := fun c c1 c2 c3 => by rw [clE_o c1 c2 (by omega), f1 c c3]
  by_cases hk : fk = 0
  · have cl := fun P => (c54 P).2 hk (clE A' fk fp n') rfl
    have y2 : ∀ i, clE A' fk fp n' 173 i = A' 173 i ∧ clE A' fk fp n' 174 i = A' 174 i ∧ clE A' fk fp n' 175 i = A' 175 i ∧ clE A' fk fp n' 176 i = A' 176 i ∧ clE A' fk fp n' 177 i = A' 177 i ∧ clE A' fk fp n' 178 i = A' 178 i ∧ clE A' fk fp n' 179 i = A' 179 i := fun i => by
      rw [clE_o (by decide) (by decide) (by decide), clE_o (by decide) (by decide) (by decide), clE_o (by decide) (by decide) (by decide), clE_o (by decide) (by decide) (by decide), clE_o (by decide) (by decide) (by decide), clE_o (by decide) (by decide) (by decide), clE_o (by decide) (by decide) (by decide)]
      exact ⟨rfl, rfl, rfl, rfl, rfl, rfl, rfl⟩
    generalize clE A' fk fp n' = E at *
    have cl : ∀ P, mCall X D 54 [.ref 0] (mN A, RF, G, mSh) P = P (some (.int (tN (A' 173 0)))) (mN (clF E), RF, G, mSh) := cl
    obtain ⟨g1, g2⟩ := go (clF E) (by rw [clF_o (by omega), hE 186 (by decide) (by decide) (by omega)]) (by rw [clF_o (by omega), hE 187 (by decide) (by decide) (by omega)])
    obtain ⟨B', j1, j2⟩ := f5 _ g2
    rcases j2 with ⟨k1, k2, k3⟩ | ⟨nl, m1, m2, m3, m4, m5, m6⟩
    · omega
    · have nl12 : nl ≤ 12 := by
        rcases Nat.lt_or_ge 12 nl with y | y
        · exact absurd hk (m4 y)
        · exact y
      have n173 : A' 173 0 = nl := by omega
      subst hk
      have tl : ∀ l, l < nl → B' 215 l ≤ 4 := fun l hl => (m2 l hl (by omega)).1.2.1
      have C215 : aU B' 205 0 nl 215 = B' 215 := aU_nf (by decide)
      have C216 : aU B' 205 0 nl 216 = B' 216 := aU_nf (by decide)
      have C217 : aU B' 205 0 nl 217 = B' 217 := aU_nf (by decide)
      have C218 : aU B' 205 0 nl 218 = B' 218 := aU_nf (by decide)
      have C219 : aU B' 205 0 nl 219 = B' 219 := aU_nf (by decide)
      have I := l_cp2 (X := X) (D := D - 1) (cap := (mSh.length + (mAl 153).fst, mSum mSh + (mAl 153).snd)) (G := G) (b := b) (L := L) (t := t') nl12 nl 0 (aU B' 205 0 nl) .null (by omega) (by rw [aU_ne (by decide)]; exact m1.2.2.2) (by rw [C215]; exact tl) mOk_null
      rw [C215, C216, C217, C218, C219] at I
      obtain ⟨B2, i1, i2, i3, i4, i5⟩ := I
      have x3 := fun P => x_3 (X := X) (D := D - 1) (cap := (mSh.length + (mAl 153).fst, mSum mSh + (mAl 153).snd)) (P := P) (G := G) (B := B') (b := b) (L := L) (t := t') (nl := nl) m1.2.1 m1.2.2.2
      -- cells that nobody wrote
      have q : ∀ c, c ≠ 185 → c ≠ 187 → c ≠ 188 → c ≠ 189 → c < 205 ∨ 219 < c ∨ (211 ≤ c ∧ c ≤ 214) → mT B2 b L t' c = clF E c := fun c c1 c2 c3 c4 c5 => by
        rw [mt_o c1, i1 c (by omega), aU_nf (by omega), j1 c c1 (by omega), mm0_o c1 c2 c3 c4]
      have q' : ∀ c, c ≠ 1 → c ≠ 38 → c < 30 ∨ 36 < c → c < 172 ∨ c = 180 ∨ 184 < c → clF E c = A c := fun c c1 c2 c3 c4 => by rw [clF_o c3, hE c c1 c2 c4]
      have o : ∀ c, 205 ≤ c → c ≤ 210 → B' c = A c := fun c c1 c2 => by rw [j1 c (by omega) (by omega), mm0_o (by omega) (by omega) (by omega) (by omega), q' c (by omega) (by omega) (by omega) (by omega)]
      have o7 : ∀ c, c = 187 ∨ c = 188 ∨ c = 189 → mT B2 b L t' c = mm0 (clF E) L c := fun c c1 => by rw [mt_o (by omega), i1 c (by omega), aU_nf (by omega), j1 c (by omega) (by omega)]
      refine ⟨tN nl, clF E, mT B2 b L t', moQ G b L t', fun P => by rw [cl P, n173], fun P => by rw [g1 P, m6 P, x3 P, i5 P], Inv_T h (fun c hc => ?_) (fun c i hc hi => ?_) ?_ ⟨?_, ?_⟩ ⟨?_, ?_⟩⟩
      · rw [q c (by omega) (by omega) (by omega) (by omega) (by omega), q' c (by omega) (by omega) (by omega) (by omega)]
      · rcases (show c = 187 ∨ c = 188 ∨ c = 189 ∨ c = 205 ∨ c = 206 ∨ c = 207 ∨ c = 208 ∨ c = 209 ∨ c = 210 by omega) with r | r | r | r | r | r | r | r | r <;> subst r
        · have hi : 1 ≤ i := hi
          rw [o7 187 (by omega), mm0_7, if_neg (by omega), q' 187 (by decide) (by decide) (by omega) (by omega)]
        · have hi : 1 ≤ i := hi
          rw [o7 188 (by omega), mm0_8, if_neg (by omega), q' 188 (by decide) (by decide) (by omega) (by omega)]
        · have hi : 1 ≤ i := hi
          rw [o7 189 (by omega), mm0_9, if_neg (by omega), q' 189 (by decide) (by decide) (by omega) (by omega)]
        · have hi : 1 ≤ i := hi
          rw [mt_o (by decide), i1 205 (by omega), aU_ne2 (by omega), o 205 (by omega) (by omega)]
        · have hi : 12 ≤ i := hi
          rw [mt_o (by decide), (i2 i (by omega)).1, aU_ne (by decide), o 206 (by omega) (by omega)]
        · have hi : 48 ≤ i := hi
          rw [mt_o (by decide), (i3 i (by omega)).1, aU_ne (by decide), o 207 (by omega) (by omega)]
        · have hi : 48 ≤ i := hi
          rw [mt_o (by decide), (i3 i (by omega)).2.1, aU_ne (by decide), o 208 (by omega) (by omega)]
        · have hi : 48 ≤ i := hi
          rw [mt_o (by decide), (i3 i (by omega)).2.2, aU_ne (by decide), o 209 (by omega) (by omega)]
        · have hi : 12 ≤ i := hi
          rw [mt_o (by decide), (i2 i (by omega)).2, aU_ne (by decide), o 210 (by omega) (by omega)]
      · have e205 : mT B2 b L t' 205 0 = nl := by rw [mt_o (by decide), i1 205 (by omega), aU_eq]
        have e30 : mT B2 b L t' 30 0 = nl := by rw [q 30 (by decide) (by decide) (by decide) (by decide) (by omega), clF_30, (y2 0).1, n173]
        show mT B2 b L t' 30 0 = mT B2 b L t' 205 0 ∧ mT B2 b L t' 205 0 ≤ 12 ∧ ∀ l, l < mT B2 b L t' 205 0 → mT B2 b L t' 31 l = mT B2 b L t' 210 l ∧ mT B2 b L t' 210 l ≤ 100 ∧ mT B2 b L t' 32 l = mT B2 b L t' 206 l ∧ mT B2 b L t' 206 l ≤ 4 ∧ ∀ i, i < mT B2 b L t' 206 l → mT B2 b L t' 33 (4 * l + i) < 5 ∧ mT B2 b L t' 36 (4 * l + i) ≤ 1 ∧ mT B2 b L t' 207 (4 * l + i) = mT B2 b L t' 33 (4 * l + i) + 8 * mT B2 b L t' 36 (4 * l + i) ∧ mT B2 b L t' 34 (4 * l + i) = mT B2 b L t' 208 (4 * l + i) ∧ mT B2 b L t' 35 (4 * l + i) = mT B2 b L t' 209 (4 * l + i) ∧ mT B2 b L t' 208 (4 * l + i) < 256 ∧ mT B2 b L t' 209 (4 * l + i) ≤ 999
        rw [e30, e205]
        refine ⟨rfl, nl12, fun l hl => ?_⟩
        obtain ⟨⟨d1, d2, d3⟩, d4, d5⟩ := m2 l hl (by omega)
        obtain ⟨v1, v2, v3⟩ := i4 l (Nat.zero_le _) hl
        have y := y2 l
        have e31 : mT B2 b L t' 31 l = B' 219 l := by rw [q 31 (by decide) (by decide) (by decide) (by decide) (by omega), clF_31 (by omega), y.2.1, d4]
        have e32 : mT B2 b L t' 32 l = B' 215 l := by rw [q 32 (by decide) (by decide) (by decide) (by decide) (by omega), clF_32 (by omega), y.2.2.1, d1]
        have e210 : mT B2 b L t' 210 l = B' 219 l := by rw [mt_o (by decide), v2]
        have e206 : mT B2 b L t' 206 l = B' 215 l := by rw [mt_o (by decide), v1]
        rw [e31, e32, e210, e206]
        refine ⟨rfl, d5 rfl, rfl, d2, fun i hi => ?_⟩
        obtain ⟨w1, w2, w3, w4, w5, w6, w7⟩ := d3 i hi
        obtain ⟨u1, u2, u3⟩ := v3 i hi
        have yy := y2 (4 * l + i)
        have e33 : mT B2 b L t' 33 (4 * l + i) = A' 176 (4 * l + i) := by rw [q 33 (by decide) (by decide) (by decide) (by decide) (by omega), clF_33 (by omega), yy.2.2.2.1]
        have e34 : mT B2 b L t' 34 (4 * l + i) = A' 177 (4 * l + i) := by rw [q 34 (by decide) (by decide) (by decide) (by decide) (by omega), clF_34 (by omega), yy.2.2.2.2.1]
        have e35 : mT B2 b L t' 35 (4 * l + i) = A' 178 (4 * l + i) := by rw [q 35 (by decide) (by decide) (by decide) (by decide) (by omega), clF_35 (by omega), yy.2.2.2.2.2.1]
        have e36 : mT B2 b L t' 36 (4 * l + i) = A' 179 (4 * l + i) := by rw [q 36 (by decide) (by decide) (by decide) (by decide) (by omega), clF_36 (by omega), yy.2.2.2.2.2.2]
        have e207 : mT B2 b L t' 207 (4 * l + i) = B' 216 (4 * l + i) := by rw [mt_o (by decide), u1]
        have e208 : mT B2 b L t' 208 (4 * l + i) = B' 217 (4 * l + i) := by rw [mt_o (by decide), u2]
        have e209 : mT B2 b L t' 209 (4 * l + i) = B' 218 (4 * l + i) := by rw [mt_o (by decide), u3]
        rw [e33, e34, e35, e36, e207, e208, e209]
        exact ⟨w1, w2, w3, w4, w5, w6, w7⟩
      · rw [q 38 (by decide) (by decide) (by decide) (by decide) (by omega), clF_o (by omega)]; exact z3
      · rw [o7 187 (by omega), mm0_7]; rfl
      · rw [q 1 (by decide) (by decide) (by decide) (by decide) (by omega), clF_o (by omega), z1, o7 188 (by omega), mm0_8]; rfl
      · rw [q 1 (by decide) (by decide) (by decide) (by decide) (by omega), clF_o (by omega), z2, o7 189 (by omega), mm0_9, f3 rfl]; rfl
  · have cl : ∀ P, mCall X D 54 [.ref 0] (mN A, RF, G, mSh) P = P (some (.int (tN (4294967295)))) (mN (clE A' fk fp n'), RF, G, mSh) := fun P => (c54 P).1 hk
    generalize clE A' fk fp n' = E at *
    obtain ⟨g1, g2⟩ := go E (hE 186 (by decide) (by decide) (by omega)) (hE 187 (by decide) (by decide) (by omega))
    obtain ⟨B', j1, j2⟩ := f5 _ g2
    have key : ∀ P, mCall X D 153 [.ref 185] (mN (E), RF, G, mSh) P = P (some (.int (tN (4294967295)))) (mN (mT (aU (aU B' 188 0 fk) 189 0 fp) b L (t')), RF, moQ G b L (t'), mSh) := fun P => by
      rcases j2 with ⟨k1, k2, k3⟩ | ⟨nl, m1, m2, m3, m4, m5, m6⟩
      · rw [g1 P, k3 P, x_1, k2, k1]
      · rw [g1 P, m6 P, x_2 m1.2.1 (by omega) f2, m1.2.2.1 hk]
    have q : ∀ c, c ≠ 185 → c ≠ 187 → c ≠ 188 → c ≠ 189 → c < 215 ∨ 219 < c → mT (aU (aU B' 188 0 fk) 189 0 fp) b L t' c = E c := fun c c1 c2 c3 c4 c5 => by
      rw [mt_o c1, aU_nf c4, aU_nf c3, j1 c c1 (by omega), mm0_o c1 c2 c3 c4]
    have q7 : mT (aU (aU B' 188 0 fk) 189 0 fp) b L t' 187 = mm0 E L 187 := by rw [mt_o (by decide), aU_nf (by decide), aU_nf (by decide), j1 187 (by decide) (by omega)]
    have q8 : ∀ i, mT (aU (aU B' 188 0 fk) 189 0 fp) b L t' 188 i = if i = 0 then fk else mm0 E L 188 i := fun i => by rw [mt_o (by decide), aU_ne (by decide), aU_if, j1 188 (by decide) (by omega)]
    have q9 : ∀ i, mT (aU (aU B' 188 0 fk) 189 0 fp) b L t' 189 i = if i = 0 then fp else mm0 E L 189 i := fun i => by rw [mt_o (by decide), aU_if, aU_ne (by decide), j1 189 (by decide) (by omega)]
    generalize mT (aU (aU B' 188 0 fk) 189 0 fp) b L t' = A2 at *
    refine ⟨tN 4294967295, E, A2, moQ G b L t', cl, key, Inv_T h (fun c hc => ?_) (fun c i hc hi => ?_) ?_ ⟨?_, ?_⟩ ⟨?_, ?_⟩⟩
    · rw [q c (by omega) (by omega) (by omega) (by omega) (by omega), hE c (by omega) (by omega) (by omega)]
    · by_cases r7 : c = 187
      · subst r7
        have hi : 1 ≤ i := hi
        rw [q7, mm0_7, if_neg (by omega), hE 187 (by decide) (by decide) (by omega)]
      · by_cases r8 : c = 188
        · subst r8
          have hi : 1 ≤ i := hi
          rw [q8, if_neg (by omega), mm0_8, if_neg (by omega), hE 188 (by decide) (by decide) (by omega)]
        · by_cases r9 : c = 189
          · subst r9
            have hi : 1 ≤ i := hi
            rw [q9, if_neg (by omega), mm0_9, if_neg (by omega), hE 189 (by decide) (by decide) (by omega)]
          · rw [q c (by omega) (by omega) (by omega) (by omega) (by omega), hE c (by omega) (by omega) (by omega)]
    · exact rlT_cg (fun j k1 k2 i _ => by rw [q (1 + j) (by omega) (by omega) (by omega) (by omega) (by omega), hE (1 + j) (by omega) (by omega) (by omega)]) (fun c k1 k2 i _ => by rw [q c (by omega) (by omega) (by omega) (by omega) (by omega), hE c (by omega) (by omega) (by omega)]) h.1.2.2.2.1
    · rw [q 38 (by decide) (by decide) (by decide) (by decide) (by omega)]; exact z3
    · rw [q7, mm0_7]; rfl
    · rw [q 1 (by decide) (by decide) (by decide) (by decide) (by omega), z1, q8]; rfl
    · rw [q 1 (by decide) (by decide) (by decide) (by decide) (by omega), z2, q9]; rfl
end

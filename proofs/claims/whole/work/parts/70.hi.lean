set_option maxRecDepth 20000
set_option maxHeartbeats 4000000
/-! THE HALL: free seats, who holds what, who owns which seat -/
def HI (nr : Nat) (w F H : Nat → Nat) (T : Nat → Nat → Nat) (O : Nat → Nat) : Prop :=
  (∀ r, r < nr → F r < 2 ^ w r) ∧
  (∀ r j, r < nr → j < w r → ((F r).testBit j = true ↔ O (12 * r + j) = 4294967295)) ∧
  (∀ r j a, r < nr → j < w r → a < 12 → (O (12 * r + j) = a ↔ ∃ k, k < H a ∧ T a k = 100 * r + j)) ∧
  (∀ a k, a < 12 → k < H a → T a k / 100 < nr ∧ T a k % 100 < w (T a k / 100)) ∧
  (∀ a i k, a < 12 → i < k → k < H a → T a i ≠ T a k) ∧
  (∀ a, a < 12 → H a ≤ 6)
theorem HI_cg {nr : Nat} {w F H O w2 F2 H2 O2 : Nat → Nat} {T T2 : Nat → Nat → Nat} (hn : nr ≤ 6) (h12 : ∀ r, r < nr → w r ≤ 12) (hw : ∀ r, r < nr → w2 r = w r) (hF : ∀ r, r < nr → F2 r = F r) (hH : ∀ a, a < 12 → H2 a = H a) (hT : ∀ a k, a < 12 → k < H a → T2 a k = T a k) (hO : ∀ i, i < 72 → O2 i = O i) (h : HI nr w F H T O) : HI nr w2 F2 H2 T2 O2 := by
  obtain ⟨p1, p2, p3, p4, p5, p6⟩ := h
  refine ⟨fun r hr => ?_, fun r j hr hj => ?_, fun r j a hr hj ha => ?_, fun a k ha hk => ?_, fun a i k ha hi hk => ?_, fun a ha => ?_⟩
  · rw [hF r hr, hw r hr]; exact p1 r hr
  · rw [hw r hr] at hj
    have := h12 r hr
    rw [hF r hr, hO _ (by omega)]; exact p2 r j hr hj
  · rw [hw r hr] at hj
    have := h12 r hr
    rw [hO _ (by omega), p3 r j a hr hj ha, hH a ha]
    exact ⟨fun ⟨k, k1, k2⟩ => ⟨k, k1, by rw [hT a k ha k1]; exact k2⟩, fun ⟨k, k1, k2⟩ => ⟨k, k1, by rw [hT a k ha k1] at k2; exact k2⟩⟩
  · rw [hH a ha] at hk
    obtain ⟨q1, q2⟩ := p4 a k ha hk
    rw [hT a k ha hk]
    exact ⟨q1, by rw [hw _ q1]; exact q2⟩
  · rw [hH a ha] at hk
    rw [hT a k ha hk, hT a i ha (by omega)]; exact p5 a i k ha hi hk
  · rw [hH a ha]; exact p6 a ha
theorem HI_turn {nr : Nat} {w F H O pr : Nat → Nat} {T T2 : Nat → Nat → Nat} {a sz most pt : Nat} (hn : nr ≤ 6) (h12 : ∀ r, r < nr → w r ≤ 12) (ha : a < 12) (h0 : H a = 0) (h1 : 1 ≤ sz) (h6 : sz ≤ 6) (hT : ∀ b, b ≠ a → T2 b = T b) (hTa : ∀ k, k < ttN pr F sz most pt nr → T2 a k = ttP pr F sz most nr k) (h : HI nr w F H T O) : HI nr w (ttF pr F sz most pt nr) (up H a (ttN pr F sz most pt nr)) T2 (oSet O (posN 0 (ttP pr F sz most nr)) a (ttN pr F sz most pt nr)) := by
  obtain ⟨p1, p2, p3, p4, p5, p6⟩ := h
  have hp := fun k hk => ttP_ok (pr := pr) (F := F) (w := w) (sz := sz) (most := most) (pt := pt) (nr := nr) (k := k) h1 h6 hn h12 p1 hk
  have hb := fun r j hr => ttF_bit (pr := pr) (F := F) (w := w) (sz := sz) (most := most) (pt := pt) (nr := nr) (r := r) (j := j) h1 h6 hn h12 p1 hr
  have hne := fun i k hk hi => ttP_ne (pr := pr) (F := F) (w := w) (sz := sz) (most := most) (pt := pt) (nr := nr) (i := i) (k := k) h1 h6 hn h12 p1 hk hi
  have hN : ttN pr F sz most pt nr ≤ 6 := by
    rcases ttN_le (pr := pr) (F := F) (sz := sz) (most := most) (pt := pt) (nr := nr) with q | q <;> omega
  have hlt := fun r (hr : r < nr) => ttF_lt (pr := pr) (F := F) (sz := sz) (most := most) (pt := pt) (nr := nr) (p1 r hr)
  generalize ttP pr F sz most nr = tp at *
  generalize ttN pr F sz most pt nr = N at *
  generalize ttF pr F sz most pt nr = F2 at *
  have hhit : ∀ r j, r < nr → j < w r → (∃ k, k < N ∧ tp k = 100 * r + j) → oSet O (posN 0 tp) a N (12 * r + j) = a := by
    rintro r j hr hj ⟨k, k1, k2⟩
    have := h12 r hr
    have e : 12 * r + j = posN 0 tp k := by unfold posN; omega
    rw [e, oSet_hit N k k1]
  have hmiss : ∀ r j, r < nr → j < w r → (¬ ∃ k, k < N ∧ tp k = 100 * r + j) → oSet O (posN 0 tp) a N (12 * r + j) = O (12 * r + j) := by
    intro r j hr hj hno
    have q1 := h12 r hr
    refine oSet_miss N (fun k hk e => hno ⟨k, hk, ?_⟩)
    obtain ⟨s1, s2, s3, s4⟩ := hp k hk
    have q2 := h12 _ s1
    unfold posN at e
    omega
  refine ⟨hlt, fun r j hr hj => ?_, fun r j b hr hj hb' => ?_, fun b k hb' hk => ?_, fun b i k hb' hi hk => ?_, fun b hb' => ?_⟩
  · rw [hb r j hr]
    have q1 := h12 r hr
    by_cases c : ∃ k, k < N ∧ tp k = 100 * r + j
    · rw [hhit r j hr hj c]
      obtain ⟨k, k1, k2⟩ := c
      exact ⟨fun z => absurd ⟨by omega, by omega⟩ (z.2 k k1), fun z => absurd z (by omega)⟩
    · rw [hmiss r j hr hj c, p2 r j hr hj]
      refine ⟨fun z => z.1, fun z => ⟨z, fun k hk y => c ⟨k, hk, ?_⟩⟩⟩
      obtain ⟨y1, y2⟩ := y
      omega
  · have q1 := h12 r hr
    by_cases c : ∃ k, k < N ∧ tp k = 100 * r + j
    · rw [hhit r j hr hj c]
      by_cases e : b = a
      · subst e
        refine ⟨fun _ => ?_, fun _ => rfl⟩
        obtain ⟨k, k1, k2⟩ := c
        exact ⟨k, by rw [up_eq]; exact k1, by rw [hTa k k1]; exact k2⟩
      · refine ⟨fun z => absurd z.symm e, fun z => ?_⟩
        rw [up_ne e, hT b e] at z
        have z2 := (p3 r j b hr hj hb').mpr z
        obtain ⟨k, k1, k2⟩ := c
        obtain ⟨s1, s2, s3, s4⟩ := hp k k1
        rw [show tp k / 100 = r by omega, show tp k % 100 = j by omega] at s3
        have := (p2 r j hr hj).mp s3
        omega
    · rw [hmiss r j hr hj c]
      by_cases e : b = a
      · subst e
        rw [p3 r j b hr hj hb', h0, up_eq]
        refine ⟨fun ⟨k, k1, _⟩ => absurd k1 (by omega), fun ⟨k, k1, k2⟩ => absurd ⟨k, k1, by rw [hTa k k1] at k2; exact k2⟩ c⟩
      · rw [p3 r j b hr hj hb', up_ne e, hT b e]
  · by_cases e : b = a
    · subst e
      rw [up_eq] at hk
      rw [hTa k hk]
      obtain ⟨s1, s2, s3, s4⟩ := hp k hk
      exact ⟨s1, s2⟩
    · rw [up_ne e] at hk
      rw [hT b e]
      exact p4 b k hb' hk
  · by_cases e : b = a
    · subst e
      rw [up_eq] at hk
      rw [hTa k hk, hTa i (by omega)]
      exact hne i k hk hi
    · rw [up_ne e] at hk
      rw [hT b e]
      exact p5 b i k hb' hi hk
  · by_cases e : b = a
    · subst e
      rw [up_eq]; exact hN
    · rw [up_ne e]; exact p6 b hb'
theorem HI_back {nr : Nat} {w F H O : Nat → Nat} {T : Nat → Nat → Nat} {a : Nat} (hn : nr ≤ 6) (h12 : ∀ r, r < nr → w r ≤ 12) (ha : a < 12) (h0 : 0 < H a) (h : HI nr w F H T O) : HI nr w (up F (T a (H a - 1) / 100) (F (T a (H a - 1) / 100) ||| 1 <<< (T a (H a - 1) % 100))) (up H a (H a - 1)) T (up O (12 * (T a (H a - 1) / 100) + T a (H a - 1) % 100) 4294967295) := by
  obtain ⟨p1, p2, p3, p4, p5, p6⟩ := h
  obtain ⟨q1, q2⟩ := p4 a (H a - 1) ha (by omega)
  have q3 := h12 _ q1
  generalize hp : T a (H a - 1) = p at *
  have hO : O (12 * (p / 100) + p % 100) = a := (p3 (p / 100) (p % 100) a q1 q2 ha).mpr ⟨H a - 1, by omega, by rw [hp]; omega⟩
  have hpos : ∀ r j, r < nr → j < w r → (12 * r + j = 12 * (p / 100) + p % 100 ↔ r = p / 100 ∧ j = p % 100) := by
    intro r j hr hj
    have := h12 r hr
    omega
  refine ⟨fun r hr => ?_, fun r j hr hj => ?_, fun r j b hr hj hb => ?_, fun b k hb hk => ?_, fun b i k hb hi hk => ?_, fun b hb => ?_⟩
  · unfold up
    split
    · next e =>
      rw [e, Nat.one_shiftLeft]
      exact Nat.or_lt_two_pow (p1 _ q1) (Nat.pow_lt_pow_right (by omega) q2)
    · exact p1 r hr
  · unfold up
    by_cases e : r = p / 100
    · subst e
      rw [if_pos rfl, or_bit]
      by_cases e2 : j = p % 100
      · rw [if_pos (by omega), e2, decide_eq_true rfl, Bool.or_true]
        exact ⟨fun _ => rfl, fun _ => rfl⟩
      · rw [if_neg (by omega), decide_eq_false (fun z => e2 z.symm), Bool.or_false]
        exact p2 _ j hr hj
    · rw [if_neg e, if_neg (fun z => e ((hpos r j hr hj).mp z).1)]
      exact p2 r j hr hj
  · unfold up
    by_cases e : r = p / 100 ∧ j = p % 100
    · rw [if_pos ((hpos r j hr hj).mpr e)]
      refine ⟨fun z => absurd z (by omega), ?_⟩
      rintro ⟨k, k1, k2⟩
      by_cases e2 : b = a
      · subst e2
        rw [if_pos rfl] at k1
        exact absurd (show T b k = T b (H b - 1) by rw [hp]; omega) (p5 b k (H b - 1) hb k1 (by omega))
      · rw [if_neg e2] at k1
        have := (p3 r j b hr hj hb).mpr ⟨k, k1, k2⟩
        rw [e.1, e.2, hO] at this
        exact absurd this.symm e2
    · rw [if_neg (fun z => e ((hpos r j hr hj).mp z)), p3 r j b hr hj hb]
      by_cases e2 : b = a
      · subst e2
        rw [if_pos rfl]
        constructor
        · rintro ⟨k, k1, k2⟩
          refine ⟨k, ?_, k2⟩
          by_cases e3 : k = H b - 1
          · rw [e3, hp] at k2
            have := h12 r hr
            exact absurd ⟨by omega, by omega⟩ e
          · omega
        · rintro ⟨k, k1, k2⟩
          exact ⟨k, by omega, k2⟩
      · rw [if_neg e2]
  · unfold up at hk
    by_cases e2 : b = a
    · subst e2
      rw [if_pos rfl] at hk
      exact p4 b k hb (by omega)
    · rw [if_neg e2] at hk
      exact p4 b k hb hk
  · unfold up at hk
    by_cases e2 : b = a
    · subst e2
      rw [if_pos rfl] at hk
      exact p5 b i k hb hi (by omega)
    · rw [if_neg e2] at hk
      exact p5 b i k hb hi hk
  · unfold up
    by_cases e2 : b = a
    · subst e2
      rw [if_pos rfl]
      have := p6 b hb
      omega
    · rw [if_neg e2]; exact p6 b hb
theorem hfA_none {H : Nat → Nat} {T : Nat → Nat → Nat} {p : Nat} : ∀ m a, (∀ b, a ≤ b → b < a + m → hsk (T b) p (H b) = false) → hfA H T p a m = 4294967295
  | 0, _, _ => rfl
  | m + 1, a, h => by
    unfold hfA
    rw [h a (by omega) (by omega), if_neg (by decide)]
    exact hfA_none m (a + 1) (fun b h1 h2 => h b (by omega) (by omega))
theorem hfA_some {H : Nat → Nat} {T : Nat → Nat → Nat} {p c : Nat} (hc : hsk (T c) p (H c) = true) : ∀ m a, a ≤ c → c < a + m → (∀ b, a ≤ b → b < c → hsk (T b) p (H b) = false) → hfA H T p a m = c
  | 0, a, h1, h2, _ => absurd h2 (by omega)
  | m + 1, a, h1, h2, h => by
    unfold hfA
    by_cases e : a = c
    · rw [e, if_pos hc]
    · rw [h a (by omega) (by omega), if_neg (by decide)]
      exact hfA_some hc m (a + 1) (by omega) (by omega) (fun b h1 h2 => h b (by omega) h2)
theorem HI_hf {nr n : Nat} {w F H O : Nat → Nat} {T : Nat → Nat → Nat} {r j : Nat} (hn : n ≤ 12) (hz : ∀ a, n ≤ a → a < 12 → H a = 0) (hO : O (12 * r + j) = 4294967295 ∨ O (12 * r + j) < 12) (hr : r < nr) (hj : j < w r) (h : HI nr w F H T O) : hfA H T (r * 100 + j) 0 n = O (12 * r + j) := by
  have p3 := h.2.2.1
  rw [Nat.mul_comm r 100]
  rcases hO with e | e
  · rw [e]
    refine hfA_none n 0 (fun b _ hb => ?_)
    by_cases c : hsk (T b) (100 * r + j) (H b) = true
    · have := (p3 r j b hr hj (by omega)).mpr ((hsk_iff _).mp c)
      omega
    · simpa using c
  · have hc := (p3 r j _ hr hj e).mp rfl
    have hlt : O (12 * r + j) < n := by
      by_cases c : O (12 * r + j) < n
      · exact c
      · obtain ⟨k, k1, _⟩ := hc
        rw [hz _ (by omega) e] at k1
        omega
    refine hfA_some ((hsk_iff _).mpr hc) n 0 (by omega) (by omega) (fun b _ hb => ?_)
    by_cases c : hsk (T b) (100 * r + j) (H b) = true
    · have := (p3 r j b hr hj (by omega)).mpr ((hsk_iff _).mp c)
      omega
    · simpa using c

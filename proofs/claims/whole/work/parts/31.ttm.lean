set_option maxRecDepth 20000
set_option maxHeartbeats 4000000
/-! A TURN: what it takes -/
theorem blk_in {f n s w : Nat} (hn : 1 ≤ n) (hf : f < 2 ^ w) (h : f &&& bkm n s = bkm n s) : s + n ≤ w := by
  by_cases c : w < s + n
  · exact absurd h (rbk_hi hn hf c)
  · omega
theorem pw_4096 {f w : Nat} (hw : w ≤ 12) (h : f < 2 ^ w) : f < 4096 := Nat.lt_of_lt_of_le h (show 2 ^ w ≤ 2 ^ 12 from Nat.pow_le_pow_right (by omega) hw)
theorem tkF_bit {F : Nat → Nat} {b n r j : Nat} (h : F r < 4096) : (tkF F b n r).testBit j = true ↔ (F r).testBit j = true ∧ ¬ (r = b / 100 ∧ b % 100 ≤ j ∧ j < b % 100 + n) := by
  unfold tkF
  by_cases c : r = b / 100
  · rw [if_pos c, off_bit h]
    by_cases c1 : b % 100 ≤ j
    · by_cases c2 : j < b % 100 + n
      · simp [c, c1, c2]
      · simp [c, c1, c2]
    · simp [c, c1]
  · rw [if_neg c]
    simp [c]
theorem ptF_bit {pr F : Nat → Nat} {most nr r j : Nat} (h : F r < 4096) : ∀ k, (ptF pr F most nr k r).testBit j = true ↔ (F r).testBit j = true ∧ ∀ i, i < k → ¬ (r = ptB pr F most nr i / 100 ∧ j = ptB pr F most nr i % 100) := by
  intro k
  induction k with
  | zero => exact ⟨fun z => ⟨z, fun i hi => absurd hi (by omega)⟩, fun z => z.1⟩
  | succ k ih =>
    show (tkF (ptF pr F most nr k) (ptB pr F most nr k) 1 r).testBit j = true ↔ _
    rw [tkF_bit (ptF_lt h k), ih]
    constructor
    · rintro ⟨⟨a, b⟩, c⟩
      refine ⟨a, fun i hi => ?_⟩
      by_cases e : i = k
      · subst e
        rintro ⟨z1, z2⟩
        exact c ⟨z1, by omega, by omega⟩
      · exact b i (by omega)
    · rintro ⟨a, b⟩
      refine ⟨⟨a, fun i hi => b i (by omega)⟩, ?_⟩
      rintro ⟨z1, z2, z3⟩
      exact b k (by omega) ⟨z1, by omega⟩
theorem ttN_le {pr F : Nat → Nat} {sz most pt nr : Nat} : ttN pr F sz most pt nr = 0 ∨ ttN pr F sz most pt nr = sz := by
  unfold ttN
  split
  · split
    · exact .inl rfl
    · exact .inr rfl
  · exact .inr rfl
theorem ttF_lt {pr F : Nat → Nat} {sz most pt nr r m : Nat} (h : F r < m) : ttF pr F sz most pt nr r < m := by
  unfold ttF
  split
  · split
    · exact h
    · exact ptF_lt h _
  · exact tkF_lt h
theorem ttP_ok {pr F w : Nat → Nat} {sz most pt nr k : Nat} (h1 : 1 ≤ sz) (h6 : sz ≤ 6) (hn : nr ≤ 6) (hw : ∀ r, r < nr → w r ≤ 12) (hF : ∀ r, r < nr → F r < 2 ^ w r) (hk : k < ttN pr F sz most pt nr) : ttP pr F sz most nr k / 100 < nr ∧ ttP pr F sz most nr k % 100 < w (ttP pr F sz most nr k / 100) ∧ (F (ttP pr F sz most nr k / 100)).testBit (ttP pr F sz most nr k % 100) = true ∧ ttP pr F sz most nr k < 600 := by
  have hF2 : ∀ r, r < nr → F r < 4096 := fun r hr => pw_4096 (hw r hr) (hF r hr)
  unfold ttN at hk
  unfold ttP
  by_cases c : bbv pr F sz most nr = 4294967295
  · simp only [c, if_true] at hk ⊢
    by_cases c2 : pt = 0 ∨ fut pr F most nr < sz
    · rw [if_pos c2] at hk; omega
    · rw [if_neg c2] at hk
      obtain ⟨a1, a2, a3, a4, a5⟩ := ptB_ok hn hF2 (show sz ≤ fut pr F most nr by omega) hk
      have b1 := bkm_on.mp a4 (ptB pr F most nr k % 100) (by omega) (by omega)
      have b2 := ((ptF_bit (hF2 _ a1) k).mp b1).1
      refine ⟨a1, ?_, b2, a5⟩
      by_cases d : ptB pr F most nr k % 100 < w (ptB pr F most nr k / 100)
      · exact d
      · rw [bit_hi (hF _ a1) (by omega)] at b2
        cases b2
  · simp only [c, if_false] at hk ⊢
    rcases bbv_ok h1 h6 hF2 hn (pr := pr) (most := most) with q | ⟨q1, q2, q3, q4, q5⟩
    · exact absurd q c
    · have e := blk_in h1 (hF _ q1) q4
      have ew := hw _ q1
      generalize bbv pr F sz most nr = b at *
      have e1 : (b + k) / 100 = b / 100 := by omega
      have e2 : (b + k) % 100 = b % 100 + k := by omega
      rw [e1, e2]
      exact ⟨q1, by omega, bkm_on.mp q4 _ (by omega) (by omega), by omega⟩
theorem ttF_bit {pr F w : Nat → Nat} {sz most pt nr r j : Nat} (h1 : 1 ≤ sz) (h6 : sz ≤ 6) (hn : nr ≤ 6) (hw : ∀ r, r < nr → w r ≤ 12) (hF : ∀ r, r < nr → F r < 2 ^ w r) (hr : r < nr) : (ttF pr F sz most pt nr r).testBit j = true ↔ (F r).testBit j = true ∧ ∀ k, k < ttN pr F sz most pt nr → ¬ (r = ttP pr F sz most nr k / 100 ∧ j = ttP pr F sz most nr k % 100) := by
  have hF2 : ∀ r, r < nr → F r < 4096 := fun r hr => pw_4096 (hw r hr) (hF r hr)
  unfold ttN ttF ttP
  by_cases c : bbv pr F sz most nr = 4294967295
  · simp only [c, if_true]
    by_cases c2 : pt = 0 ∨ fut pr F most nr < sz
    · simp only [c2, if_true]
      exact ⟨fun z => ⟨z, fun k hk => absurd hk (by omega)⟩, fun z => z.1⟩
    · simp only [c2, if_false]
      exact ptF_bit (hF2 r hr) sz
  · simp only [c, if_false]
    rw [tkF_bit (hF2 r hr)]
    rcases bbv_ok h1 h6 hF2 hn (pr := pr) (most := most) with q | ⟨q1, q2, q3, q4, q5⟩
    · exact absurd q c
    · have e := blk_in h1 (hF _ q1) q4
      have ew := hw _ q1
      generalize bbv pr F sz most nr = b at *
      constructor
      · rintro ⟨a, d⟩
        refine ⟨a, ?_⟩
        rintro k hk ⟨z1, z2⟩
        exact d ⟨by omega, by omega, by omega⟩
      · rintro ⟨a, d⟩
        refine ⟨a, ?_⟩
        rintro ⟨z1, z2, z3⟩
        exact d (j - b % 100) (by omega) ⟨by omega, by omega⟩
theorem ttP_ne {pr F w : Nat → Nat} {sz most pt nr i k : Nat} (h1 : 1 ≤ sz) (h6 : sz ≤ 6) (hn : nr ≤ 6) (hw : ∀ r, r < nr → w r ≤ 12) (hF : ∀ r, r < nr → F r < 2 ^ w r) (hk : k < ttN pr F sz most pt nr) (hi : i < k) : ttP pr F sz most nr i ≠ ttP pr F sz most nr k := by
  have hF2 : ∀ r, r < nr → F r < 4096 := fun r hr => pw_4096 (hw r hr) (hF r hr)
  unfold ttN at hk
  unfold ttP
  by_cases c : bbv pr F sz most nr = 4294967295
  · simp only [c, if_true] at hk ⊢
    by_cases c2 : pt = 0 ∨ fut pr F most nr < sz
    · rw [if_pos c2] at hk; omega
    · rw [if_neg c2] at hk
      intro z
      obtain ⟨a1, a2, a3, a4, a5⟩ := ptB_ok hn hF2 (show sz ≤ fut pr F most nr by omega) hk
      have b1 := bkm_on.mp a4 (ptB pr F most nr k % 100) (by omega) (by omega)
      exact ((ptF_bit (hF2 _ a1) k).mp b1).2 i hi ⟨by rw [z], by rw [z]⟩
  · simp only [c, if_false] at hk ⊢
    omega
/-! Updates of one place, and the run of turns -/
def up {α : Type} (g : Nat → α) (a : Nat) (v : α) : Nat → α := fun i => if i = a then v else g i
theorem up_eq {α : Type} {g : Nat → α} {a : Nat} {v : α} : up g a v a = v := if_pos rfl
theorem up_ne {α : Type} {g : Nat → α} {a i : Nat} {v : α} (h : i ≠ a) : up g a v i = g i := if_neg h
theorem up_up {α : Type} {g : Nat → α} {a : Nat} {v w : α} : up (up g a v) a w = up g a w := by
  funext i
  unfold up
  split <;> rfl
theorem up_id {α : Type} {g : Nat → α} {a : Nat} : up g a (g a) = g := by
  funext i
  unfold up
  split
  · next h => rw [h]
  · rfl
def psm (pr T : Nat → Nat) : Nat → Nat
  | 0 => 0
  | k + 1 => psm pr T k + pr (T k / 100)
section
variable (pr : Nat → Nat) (nr : Nat) (sz mo pt F0 ord : Nat → Nat)
def rnF : Nat → Nat → Nat
  | 0 => F0
  | k + 1 => ttF pr (rnF k) (sz (ord k)) (mo (ord k)) (pt (ord k)) nr
def rnN (k : Nat) : Nat := ttN pr (rnF pr nr sz mo pt F0 ord k) (sz (ord k)) (mo (ord k)) (pt (ord k)) nr
def rnT (k : Nat) (t : Nat → Nat) : Nat → Nat := ttT pr (rnF pr nr sz mo pt F0 ord k) (sz (ord k)) (mo (ord k)) (pt (ord k)) nr t
def rnS : Nat → Nat
  | 0 => 0
  | k + 1 => rnS k + (if 0 < rnN pr nr sz mo pt F0 ord k then 1 else 0)
def rnH (H : Nat → Nat) : Nat → Nat → Nat
  | 0 => H
  | k + 1 => up (rnH H k) (ord k) (rnN pr nr sz mo pt F0 ord k)
def rnK (T : Nat → Nat → Nat) : Nat → Nat → Nat → Nat
  | 0 => T
  | k + 1 => up (rnK T k) (ord k) (rnT pr nr sz mo pt F0 ord k (rnK T k (ord k)))
def rnP (T : Nat → Nat → Nat) (Q : Nat → Nat) : Nat → Nat → Nat
  | 0 => Q
  | k + 1 => up (rnP T Q k) (ord k) (rnP T Q k (ord k) + psm pr (rnT pr nr sz mo pt F0 ord k (rnK pr nr sz mo pt F0 ord T k (ord k))) (rnN pr nr sz mo pt F0 ord k))
def rnQ : Nat → Nat
  | 0 => 0
  | k + 1 => rnQ k + (if 0 < rnN pr nr sz mo pt F0 ord k then 0 else 1)
def rnL (L : Nat → Nat) : Nat → Nat → Nat
  | 0 => L
  | k + 1 => if 0 < rnN pr nr sz mo pt F0 ord k then rnL L k else up (rnL L k) (rnQ pr nr sz mo pt F0 ord k) (ord k)
end
theorem rnF_lt {pr : Nat → Nat} {nr : Nat} {sz mo pt F0 ord : Nat → Nat} {r m : Nat} (h : F0 r < m) : ∀ k, rnF pr nr sz mo pt F0 ord k r < m
  | 0 => h
  | k + 1 => ttF_lt (rnF_lt h k)
theorem rnQ_le {pr : Nat → Nat} {nr : Nat} {sz mo pt F0 ord : Nat → Nat} : ∀ k, rnQ pr nr sz mo pt F0 ord k ≤ k
  | 0 => Nat.le_refl _
  | k + 1 => by
    have := rnQ_le k (pr := pr) (nr := nr) (sz := sz) (mo := mo) (pt := pt) (F0 := F0) (ord := ord)
    unfold rnQ
    split <;> omega
theorem rnL_hi {pr : Nat → Nat} {nr : Nat} {sz mo pt F0 ord L : Nat → Nat} {i : Nat} : ∀ k, k ≤ i → rnL pr nr sz mo pt F0 ord L k i = L i
  | 0, _ => rfl
  | k + 1, h => by
    have := rnQ_le k (pr := pr) (nr := nr) (sz := sz) (mo := mo) (pt := pt) (F0 := F0) (ord := ord)
    unfold rnL
    split
    · exact rnL_hi k (by omega)
    · rw [up_ne (by omega)]
      exact rnL_hi k (by omega)

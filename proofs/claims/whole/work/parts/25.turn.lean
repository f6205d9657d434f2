/-! THE BLOCK over all rows, and a TURN, as numbers -/
theorem rbk_ex {f n : Nat} : ∀ k, rbk f n k < 1000 → ∃ s, s < k ∧ f &&& bkm n s = bkm n s ∧ rbk f n k = 100 * (hol (f &&& (bkm n s ^^^ 4294967295)) + 1 - hol f) + s := by
  intro k
  induction k with
  | zero => intro h; unfold rbk at h; omega
  | succ k ih =>
    intro h
    unfold rbk at h ⊢
    by_cases hb : f &&& bkm n k = bkm n k
    · rw [if_pos hb] at h ⊢
      by_cases hm : rbk f n k ≤ 100 * (hol (f &&& (bkm n k ^^^ 4294967295)) + 1 - hol f) + k
      · rw [Nat.min_eq_left hm] at h ⊢
        obtain ⟨s, h1, h2, h3⟩ := ih h
        exact ⟨s, by omega, h2, h3⟩
      · rw [Nat.min_eq_right (by omega)]
        exact ⟨k, by omega, hb, rfl⟩
    · rw [if_neg hb] at h ⊢
      obtain ⟨s, h1, h2, h3⟩ := ih h
      exact ⟨s, by omega, h2, h3⟩
def upS (pr : Nat → Nat) (st : Nat × Nat × Nat) (r v : Nat) : Nat × Nat × Nat :=
  if v < 1000 ∧ (st.1 = 4294967295 ∨ v / 100 < st.2.2 ∨ (v / 100 = st.2.2 ∧ pr r < pr st.1)) then (r, v % 100, v / 100) else st
def bbS (pr F : Nat → Nat) (n most : Nat) : Nat → Nat × Nat × Nat
  | 0 => (4294967295, 4294967295, 0)
  | r + 1 => if pr r ≤ most then upS pr (bbS pr F n most r) r (rbk (F r) n 12) else bbS pr F n most r
def bbv (pr F : Nat → Nat) (n most nr : Nat) : Nat := if (bbS pr F n most nr).1 = 4294967295 then 4294967295 else (bbS pr F n most nr).1 * 100 + (bbS pr F n most nr).2.1
/-- one more start of the same row -/
theorem upS_step {pr : Nat → Nat} {st : Nat × Nat × Nat} {r v m s : Nat} (hr : r < 4294967295) (hs : s < 12) (hm : m < 3) (hv : v = 1000 ∨ (v < 300 ∧ v % 100 < s)) :
    upS pr st r (min v (100 * m + s)) = (if (upS pr st r v).1 = 4294967295 ∨ m < (upS pr st r v).2.2 ∨ (m = (upS pr st r v).2.2 ∧ pr r < pr (upS pr st r v).1) then (r, s, m) else upS pr st r v) := by
  have e1 : (100 * m + s) / 100 = m := by omega
  have e2 : (100 * m + s) % 100 = s := by omega
  by_cases c : v < 1000 ∧ (st.1 = 4294967295 ∨ v / 100 < st.2.2 ∨ (v / 100 = st.2.2 ∧ pr r < pr st.1))
  · have ev : upS pr st r v = (r, v % 100, v / 100) := if_pos c
    rw [ev]
    show _ = if r = 4294967295 ∨ m < v / 100 ∨ (m = v / 100 ∧ pr r < pr r) then (r, s, m) else (r, v % 100, v / 100)
    by_cases d : m < v / 100
    · rw [if_pos (.inr (.inl d)), Nat.min_eq_right (by omega)]
      unfold upS
      rw [e1, e2]
      exact if_pos ⟨by omega, by omega⟩
    · rw [if_neg (by omega), Nat.min_eq_left (by omega)]
      exact if_pos c
  · have ev : upS pr st r v = st := if_neg c
    rw [ev]
    by_cases d : v ≤ 100 * m + s
    · rw [Nat.min_eq_left d, ev, if_neg]
      rcases hv with rfl | hv
      · omega
      · omega
    · rw [Nat.min_eq_right (by omega)]
      unfold upS
      rw [e1, e2]
      by_cases g : st.1 = 4294967295 ∨ m < st.2.2 ∨ (m = st.2.2 ∧ pr r < pr st.1)
      · rw [if_pos g, if_pos ⟨by omega, g⟩]
      · rw [if_neg g, if_neg (fun z => g z.2)]
theorem rbk_300 {f n : Nat} (hf : f < 4096) (h1 : 1 ≤ n) (h6 : n ≤ 6) (h : rbk f n 12 < 1000) : rbk f n 12 < 300 := by
  rcases bkC_at hf h1 h6 with ⟨a, b⟩ | ⟨a, b, c⟩
  · omega
  · exact c
/-- what the best so far is -/
theorem bbS_ok {pr F : Nat → Nat} {n most : Nat} (h1 : 1 ≤ n) (h6 : n ≤ 6) : ∀ k, (∀ r, r < k → F r < 4096) → k ≤ 6 → bbS pr F n most k = (4294967295, 4294967295, 0) ∨ ((bbS pr F n most k).1 < k ∧ (bbS pr F n most k).2.1 < 12 ∧ (bbS pr F n most k).2.2 < 3 ∧ pr (bbS pr F n most k).1 ≤ most ∧ F (bbS pr F n most k).1 &&& bkm n (bbS pr F n most k).2.1 = bkm n (bbS pr F n most k).2.1) := by
  intro k
  induction k with
  | zero => intro _ _; exact .inl rfl
  | succ k ih =>
    intro hF hk
    have ih := ih (fun r hr => hF r (by omega)) (by omega)
    have hw : bbS pr F n most (k + 1) = if pr k ≤ most then upS pr (bbS pr F n most k) k (rbk (F k) n 12) else bbS pr F n most k := rfl
    rw [hw]
    by_cases hp : pr k ≤ most
    · rw [if_pos hp]
      unfold upS
      split
      · next hc =>
        obtain ⟨s, g1, g2, g3⟩ := rbk_ex 12 hc.1
        have g4 := rbk_300 (hF k (by omega)) h1 h6 hc.1
        have g5 : rbk (F k) n 12 % 100 = s := by omega
        refine .inr ⟨by omega, by show rbk (F k) n 12 % 100 < 12; omega, by show rbk (F k) n 12 / 100 < 3; omega, hp, ?_⟩
        show F k &&& bkm n (rbk (F k) n 12 % 100) = bkm n (rbk (F k) n 12 % 100)
        rw [g5]; exact g2
      · rcases ih with h | ⟨a, b, c, d, e⟩
        · exact .inl h
        · exact .inr ⟨by omega, b, c, d, e⟩
    · rw [if_neg hp]
      rcases ih with h | ⟨a, b, c, d, e⟩
      · exact .inl h
      · exact .inr ⟨by omega, b, c, d, e⟩
theorem bbv_ok {pr F : Nat → Nat} {n most nr : Nat} (h1 : 1 ≤ n) (h6 : n ≤ 6) (hF : ∀ r, r < nr → F r < 4096) (hn : nr ≤ 6) : bbv pr F n most nr = 4294967295 ∨ (bbv pr F n most nr / 100 < nr ∧ bbv pr F n most nr % 100 < 12 ∧ pr (bbv pr F n most nr / 100) ≤ most ∧ F (bbv pr F n most nr / 100) &&& bkm n (bbv pr F n most nr % 100) = bkm n (bbv pr F n most nr % 100) ∧ bbv pr F n most nr < 600) := by
  rcases bbS_ok h1 h6 nr hF hn (pr := pr) (most := most) with h | ⟨a, b, c, d, e⟩
  · left; unfold bbv; rw [h]; rfl
  · right
    have e0 : bbv pr F n most nr = (bbS pr F n most nr).1 * 100 + (bbS pr F n most nr).2.1 := by unfold bbv; rw [if_neg (by omega)]
    have e1 : bbv pr F n most nr / 100 = (bbS pr F n most nr).1 := by omega
    have e2 : bbv pr F n most nr % 100 = (bbS pr F n most nr).2.1 := by omega
    rw [e1, e2]
    exact ⟨a, b, d, e, by omega⟩
theorem bbS_no {pr F : Nat → Nat} {n most : Nat} : ∀ k, k ≤ 6 → (bbS pr F n most k).1 = 4294967295 → ∀ r, r < k → pr r ≤ most → ¬ rbk (F r) n 12 < 1000 := by
  intro k
  induction k with
  | zero => intro _ _ r hr; omega
  | succ k ih =>
    intro hk h r hr hp hb
    have hw : bbS pr F n most (k + 1) = if pr k ≤ most then upS pr (bbS pr F n most k) k (rbk (F k) n 12) else bbS pr F n most k := rfl
    rw [hw] at h
    by_cases hp2 : pr k ≤ most
    · rw [if_pos hp2] at h
      unfold upS at h
      split at h
      · have h : k = 4294967295 := h
        omega
      · next hc =>
        by_cases e : r = k
        · subst e
          exact hc ⟨hb, .inl h⟩
        · exact ih (by omega) h r (by omega) hp hb
    · rw [if_neg hp2] at h
      by_cases e : r = k
      · subst e; exact hp2 hp
      · exact ih (by omega) h r (by omega) hp hb
def fut (pr F : Nat → Nat) (most : Nat) : Nat → Nat
  | 0 => 0
  | r + 1 => fut pr F most r + (if pr r ≤ most then pcn (F r) else 0)
def tkF (F : Nat → Nat) (b n : Nat) : Nat → Nat := fun r => if r = b / 100 then F r &&& (bkm n (b % 100) ^^^ 4294967295) else F r
def ptF (pr F : Nat → Nat) (most nr : Nat) : Nat → Nat → Nat
  | 0 => F
  | k + 1 => tkF (ptF pr F most nr k) (bbv pr (ptF pr F most nr k) 1 most nr) 1
def ptB (pr F : Nat → Nat) (most nr k : Nat) : Nat := bbv pr (ptF pr F most nr k) 1 most nr
theorem tkF_lt {F : Nat → Nat} {b n r m : Nat} (h : F r < m) : tkF F b n r < m := by
  unfold tkF
  split
  · exact Nat.lt_of_le_of_lt Nat.and_le_left h
  · exact h
theorem ptF_lt {pr F : Nat → Nat} {most nr r m : Nat} (h : F r < m) : ∀ k, ptF pr F most nr k r < m
  | 0 => h
  | k + 1 => tkF_lt (ptF_lt h k)
theorem fut_tk {pr F : Nat → Nat} {most b : Nat} : ∀ k, (∀ r, r < k → F r < 4096) → b % 100 < 12 → pr (b / 100) ≤ most → F (b / 100) &&& bkm 1 (b % 100) = bkm 1 (b % 100) → fut pr (tkF F b 1) most k + (if b / 100 < k then 1 else 0) = fut pr F most k := by
  intro k
  induction k with
  | zero => intro _ _ _ _; rfl
  | succ k ih =>
    intro hF h1 h2 h3
    have ih := ih (fun r hr => hF r (by omega)) h1 h2 h3
    show fut pr (tkF F b 1) most k + (if pr k ≤ most then pcn (tkF F b 1 k) else 0) + _ = fut pr F most k + (if pr k ≤ most then pcn (F k) else 0)
    by_cases e : k = b / 100
    · have e2 : tkF F b 1 k = F k &&& (bkm 1 (b % 100) ^^^ 4294967295) := if_pos e
      rw [e2]
      have g := tkC_at (hF k (by omega)) h1 (by rw [e]; exact h3)
      have q1 : ¬ b / 100 < k := by omega
      have q2 : b / 100 < k + 1 := by omega
      have q3 : pr k ≤ most := by rw [e]; exact h2
      simp only [q1, q2, q3, if_true, if_false] at ih ⊢
      omega
    · have e2 : tkF F b 1 k = F k := if_neg e
      rw [e2]
      by_cases e3 : b / 100 < k
      · have q2 : b / 100 < k + 1 := by omega
        simp only [e3, q2, if_true] at ih ⊢
        omega
      · have q2 : ¬ b / 100 < k + 1 := by omega
        simp only [e3, q2, if_false] at ih ⊢
        omega
theorem fut_no {pr F : Nat → Nat} {most nr : Nat} (hn : nr ≤ 6) (hF : ∀ r, r < nr → F r < 4096) (h : bbv pr F 1 most nr = 4294967295) : fut pr F most nr = 0 := by
  have h1 : (bbS pr F 1 most nr).1 = 4294967295 := by
    rcases bbS_ok (Nat.le_refl 1) (by decide) nr hF hn (pr := pr) (most := most) with g | ⟨a, b, c, d, e⟩
    · rw [g]
    · unfold bbv at h
      rw [if_neg (by omega)] at h
      omega
  have h2 := bbS_no nr hn h1
  have : ∀ k, k ≤ nr → fut pr F most k = 0 := by
    intro k
    induction k with
    | zero => intro _; rfl
    | succ k ih =>
      intro hk
      show fut pr F most k + _ = 0
      rw [ih (by omega)]
      by_cases hp : pr k ≤ most
      · rw [if_pos hp]
        have g := h2 k (by omega) hp
        rcases bkC_at (hF k (by omega)) (Nat.le_refl 1) (by decide) with ⟨a, b⟩ | ⟨a, b, c⟩
        · have a : F k = 0 := a
          rw [a]; rfl
        · omega
      · rw [if_neg hp]
  exact this nr (Nat.le_refl _)
theorem fut_pt {pr F : Nat → Nat} {most nr : Nat} (hn : nr ≤ 6) (hF : ∀ r, r < nr → F r < 4096) : ∀ k, k ≤ fut pr F most nr → fut pr (ptF pr F most nr k) most nr + k = fut pr F most nr := by
  intro k
  induction k with
  | zero => intro _; rfl
  | succ k ih =>
    intro hk
    have ih := ih (by omega)
    have hF2 : ∀ r, r < nr → ptF pr F most nr k r < 4096 := fun r hr => ptF_lt (hF r hr) k
    rcases bbv_ok (Nat.le_refl 1) (by decide) hF2 hn (pr := pr) (most := most) with h | ⟨a, b, c, d, e⟩
    · have := fut_no hn hF2 h
      omega
    · have := fut_tk nr hF2 b c d
      rw [if_pos a] at this
      show fut pr (tkF (ptF pr F most nr k) (bbv pr (ptF pr F most nr k) 1 most nr) 1) most nr + (k + 1) = _
      omega
theorem ptB_ok {pr F : Nat → Nat} {most nr sz k : Nat} (hn : nr ≤ 6) (hF : ∀ r, r < nr → F r < 4096) (h : sz ≤ fut pr F most nr) (hk : k < sz) : ptB pr F most nr k / 100 < nr ∧ ptB pr F most nr k % 100 < 12 ∧ pr (ptB pr F most nr k / 100) ≤ most ∧ ptF pr F most nr k (ptB pr F most nr k / 100) &&& bkm 1 (ptB pr F most nr k % 100) = bkm 1 (ptB pr F most nr k % 100) ∧ ptB pr F most nr k < 600 := by
  have hF2 : ∀ r, r < nr → ptF pr F most nr k r < 4096 := fun r hr => ptF_lt (hF r hr) k
  rcases bbv_ok (Nat.le_refl 1) (by decide) hF2 hn (pr := pr) (most := most) with g | g
  · have h1 := fut_no hn hF2 g
    have h2 := fut_pt hn hF k (by omega) (pr := pr) (most := most)
    omega
  · exact g

set_option maxRecDepth 20000
set_option maxHeartbeats 4000000
/-! What a turn sees of the prices and the asks -/
theorem bbS_lt {pr F : Nat → Nat} {n most : Nat} : ∀ k, (bbS pr F n most k).1 = 4294967295 ∨ (bbS pr F n most k).1 < k
  | 0 => .inl rfl
  | k + 1 => by
    have ih := bbS_lt (pr := pr) (F := F) (n := n) (most := most) k
    show (if pr k ≤ most then upS pr (bbS pr F n most k) k (rbk (F k) n 12) else bbS pr F n most k).1 = _ ∨ (if pr k ≤ most then upS pr (bbS pr F n most k) k (rbk (F k) n 12) else bbS pr F n most k).1 < _
    split
    · unfold upS
      split
      · right; show k < k + 1; omega
      · omega
    · omega
theorem upS_cgp {pr pr2 : Nat → Nat} {st : Nat × Nat × Nat} {r v : Nat} (h1 : pr r = pr2 r) (h2 : st.1 = 4294967295 ∨ pr st.1 = pr2 st.1) : upS pr st r v = upS pr2 st r v := by
  unfold upS
  rw [h1]
  rcases h2 with h2 | h2
  · have e1 : (v < 1000 ∧ (st.1 = 4294967295 ∨ v / 100 < st.2.2 ∨ (v / 100 = st.2.2 ∧ pr2 r < pr st.1))) = (v < 1000 ∧ (st.1 = 4294967295 ∨ v / 100 < st.2.2 ∨ (v / 100 = st.2.2 ∧ pr2 r < pr2 st.1))) := propext ⟨fun z => ⟨z.1, .inl h2⟩, fun z => ⟨z.1, .inl h2⟩⟩
    simp only [e1]
  · rw [h2]
theorem bbS_cgp {pr pr2 F : Nat → Nat} {n most : Nat} : ∀ k, (∀ r, r < k → pr r = pr2 r) → bbS pr F n most k = bbS pr2 F n most k
  | 0, _ => rfl
  | k + 1, h => by
    have ih := bbS_cgp (F := F) (n := n) (most := most) k (fun r hr => h r (by omega))
    show (if pr k ≤ most then upS pr (bbS pr F n most k) k (rbk (F k) n 12) else bbS pr F n most k) = (if pr2 k ≤ most then upS pr2 (bbS pr2 F n most k) k (rbk (F k) n 12) else bbS pr2 F n most k)
    rw [ih, h k (by omega), upS_cgp (h k (by omega)) (by
      rcases bbS_lt (pr := pr2) (F := F) (n := n) (most := most) k with z | z
      · exact .inl z
      · exact .inr (h _ (by omega)))]
theorem bbv_cgp {pr pr2 F : Nat → Nat} {n most nr : Nat} (h : ∀ r, r < nr → pr r = pr2 r) : bbv pr F n most nr = bbv pr2 F n most nr := by
  unfold bbv
  rw [bbS_cgp nr h]
theorem fut_cgp {pr pr2 F : Nat → Nat} {most : Nat} : ∀ k, (∀ r, r < k → pr r = pr2 r) → fut pr F most k = fut pr2 F most k
  | 0, _ => rfl
  | k + 1, h => by
    unfold fut
    rw [fut_cgp k (fun r hr => h r (by omega)), h k (by omega)]
theorem ptF_cgp {pr pr2 F : Nat → Nat} {most nr : Nat} (h : ∀ r, r < nr → pr r = pr2 r) : ∀ k, ptF pr F most nr k = ptF pr2 F most nr k
  | 0 => rfl
  | k + 1 => by
    unfold ptF
    rw [ptF_cgp h k, bbv_cgp h]
theorem ttN_cgp {pr pr2 F : Nat → Nat} {sz most pt nr : Nat} (h : ∀ r, r < nr → pr r = pr2 r) : ttN pr F sz most pt nr = ttN pr2 F sz most pt nr := by
  unfold ttN
  rw [bbv_cgp h, fut_cgp nr h]
theorem ttF_cgp {pr pr2 F : Nat → Nat} {sz most pt nr : Nat} (h : ∀ r, r < nr → pr r = pr2 r) : ttF pr F sz most pt nr = ttF pr2 F sz most pt nr := by
  unfold ttF
  rw [bbv_cgp h, fut_cgp nr h, ptF_cgp h]
theorem ttP_cgp {pr pr2 F : Nat → Nat} {sz most nr : Nat} (h : ∀ r, r < nr → pr r = pr2 r) : ttP pr F sz most nr = ttP pr2 F sz most nr := by
  funext i
  unfold ttP ptB
  rw [bbv_cgp h, ptF_cgp h, bbv_cgp h]
theorem ttT_cgp {pr pr2 F T : Nat → Nat} {sz most pt nr : Nat} (h : ∀ r, r < nr → pr r = pr2 r) : ttT pr F sz most pt nr T = ttT pr2 F sz most pt nr T := by
  funext i
  unfold ttT
  rw [ttN_cgp h, ttP_cgp h]
section
variable {pr pr2 sz sz2 mo mo2 pt pt2 : Nat → Nat} {nr n : Nat} {ord F0 : Nat → Nat}
theorem rnF_cgp (h : ∀ r, r < nr → pr r = pr2 r) (ha : ∀ a, a < n → sz a = sz2 a ∧ mo a = mo2 a ∧ pt a = pt2 a) (ho : ∀ k, k < n → ord k < n) : ∀ k, k ≤ n → rnF pr nr sz mo pt F0 ord k = rnF pr2 nr sz2 mo2 pt2 F0 ord k
  | 0, _ => rfl
  | k + 1, hk => by
    unfold rnF
    obtain ⟨e1, e2, e3⟩ := ha _ (ho k (by omega))
    rw [rnF_cgp h ha ho k (by omega), e1, e2, e3, ttF_cgp h]
theorem rnN_cgp (h : ∀ r, r < nr → pr r = pr2 r) (ha : ∀ a, a < n → sz a = sz2 a ∧ mo a = mo2 a ∧ pt a = pt2 a) (ho : ∀ k, k < n → ord k < n) {k : Nat} (hk : k < n) : rnN pr nr sz mo pt F0 ord k = rnN pr2 nr sz2 mo2 pt2 F0 ord k := by
  unfold rnN
  obtain ⟨e1, e2, e3⟩ := ha _ (ho k hk)
  rw [rnF_cgp h ha ho k (by omega), e1, e2, e3, ttN_cgp h]
theorem rnT_cgp (h : ∀ r, r < nr → pr r = pr2 r) (ha : ∀ a, a < n → sz a = sz2 a ∧ mo a = mo2 a ∧ pt a = pt2 a) (ho : ∀ k, k < n → ord k < n) {k : Nat} (hk : k < n) {t : Nat → Nat} : rnT pr nr sz mo pt F0 ord k t = rnT pr2 nr sz2 mo2 pt2 F0 ord k t := by
  unfold rnT
  obtain ⟨e1, e2, e3⟩ := ha _ (ho k hk)
  rw [rnF_cgp h ha ho k (by omega), e1, e2, e3, ttT_cgp h]
theorem rnS_cgp (h : ∀ r, r < nr → pr r = pr2 r) (ha : ∀ a, a < n → sz a = sz2 a ∧ mo a = mo2 a ∧ pt a = pt2 a) (ho : ∀ k, k < n → ord k < n) : ∀ k, k ≤ n → rnS pr nr sz mo pt F0 ord k = rnS pr2 nr sz2 mo2 pt2 F0 ord k
  | 0, _ => rfl
  | k + 1, hk => by
    unfold rnS
    rw [rnS_cgp h ha ho k (by omega), rnN_cgp h ha ho (by omega)]
theorem rnQ_cgp (h : ∀ r, r < nr → pr r = pr2 r) (ha : ∀ a, a < n → sz a = sz2 a ∧ mo a = mo2 a ∧ pt a = pt2 a) (ho : ∀ k, k < n → ord k < n) : ∀ k, k ≤ n → rnQ pr nr sz mo pt F0 ord k = rnQ pr2 nr sz2 mo2 pt2 F0 ord k
  | 0, _ => rfl
  | k + 1, hk => by
    unfold rnQ
    rw [rnQ_cgp h ha ho k (by omega), rnN_cgp h ha ho (by omega)]
theorem rnL_cgp (h : ∀ r, r < nr → pr r = pr2 r) (ha : ∀ a, a < n → sz a = sz2 a ∧ mo a = mo2 a ∧ pt a = pt2 a) (ho : ∀ k, k < n → ord k < n) {L : Nat → Nat} : ∀ k, k ≤ n → rnL pr nr sz mo pt F0 ord L k = rnL pr2 nr sz2 mo2 pt2 F0 ord L k
  | 0, _ => rfl
  | k + 1, hk => by
    unfold rnL
    rw [rnL_cgp h ha ho k (by omega), rnN_cgp h ha ho (by omega), rnQ_cgp h ha ho k (by omega)]
theorem rnH_cgp (h : ∀ r, r < nr → pr r = pr2 r) (ha : ∀ a, a < n → sz a = sz2 a ∧ mo a = mo2 a ∧ pt a = pt2 a) (ho : ∀ k, k < n → ord k < n) {H : Nat → Nat} : ∀ k, k ≤ n → rnH pr nr sz mo pt F0 ord H k = rnH pr2 nr sz2 mo2 pt2 F0 ord H k
  | 0, _ => rfl
  | k + 1, hk => by
    unfold rnH
    rw [rnH_cgp h ha ho k (by omega), rnN_cgp h ha ho (by omega)]
theorem rnK_cgp (h : ∀ r, r < nr → pr r = pr2 r) (ha : ∀ a, a < n → sz a = sz2 a ∧ mo a = mo2 a ∧ pt a = pt2 a) (ho : ∀ k, k < n → ord k < n) {T : Nat → Nat → Nat} : ∀ k, k ≤ n → rnK pr nr sz mo pt F0 ord T k = rnK pr2 nr sz2 mo2 pt2 F0 ord T k
  | 0, _ => rfl
  | k + 1, hk => by
    unfold rnK
    rw [rnK_cgp h ha ho k (by omega), rnT_cgp h ha ho (by omega)]
end
theorem siP_cgp {mo mo2 O : Nat → Nat} {n a : Nat} (h : ∀ i, i < n → mo i = mo2 i) (ha : a < n) : ∀ p, (∀ i, i < p → O i < n) → siP mo O a p = siP mo2 O a p
  | 0, _ => rfl
  | p + 1, hO => by
    unfold siP
    rw [h _ (hO p (by omega)), h a ha, siP_cgp h ha p (fun i hi => hO i (by omega))]
theorem siO_cgp {mo mo2 O : Nat → Nat} {n : Nat} (h : ∀ i, i < n → mo i = mo2 i) (hO : ∀ i, i < n → O i < n) : ∀ k, k ≤ n → siO mo O k = siO mo2 O k
  | 0, _ => rfl
  | k + 1, hk => by
    unfold siO
    rw [siO_cgp h hO k (by omega), siP_cgp h (show k < n by omega) k (fun i hi => siO_lt hO k (by omega) i (by omega))]
theorem ordW_cgp {mo mo2 O : Nat → Nat} {n way t : Nat} (h : ∀ i, i < n → mo i = mo2 i) : ordW mo n way t O = ordW mo2 n way t O := by
  unfold ordW
  rw [siO_cgp h (fun i hi => by unfold idO; rw [if_pos hi]; exact hi) n (Nat.le_refl n)]
theorem mvD_inj {O : Nat → Nat} {n fr to : Nat} (hf : fr < n) (ht : to ≤ fr) (h : ∀ i k, i < k → k < n → O i ≠ O k) : ∀ i k, i < k → k < n → mvD O fr to i ≠ mvD O fr to k := by
  have h' : ∀ i k, i < n → k < n → O i = O k → i = k := by
    intro i k hi hk e
    by_cases c : i < k
    · exact absurd e (h i k c hk)
    · by_cases c2 : k < i
      · exact absurd e.symm (h k i c2 hi)
      · omega
  intro i k hik hk e
  unfold mvD at e
  by_cases a1 : i = to
  · rw [if_pos a1, if_neg (by omega)] at e
    by_cases a2 : to < k ∧ k ≤ fr
    · rw [if_pos a2] at e
      have := h' _ _ hf (by omega) e
      omega
    · rw [if_neg a2] at e
      have := h' _ _ hf hk e
      omega
  · rw [if_neg a1] at e
    by_cases a2 : k = to
    · rw [if_neg (by omega), if_pos a2] at e
      have := h' _ _ (by omega) hf e
      omega
    · rw [if_neg a2] at e
      by_cases b1 : to < i ∧ i ≤ fr
      · rw [if_pos b1] at e
        by_cases b2 : to < k ∧ k ≤ fr
        · rw [if_pos b2] at e
          have := h' _ _ (by omega) (by omega) e
          omega
        · rw [if_neg b2] at e
          have := h' _ _ (by omega) hk e
          omega
      · rw [if_neg b1] at e
        by_cases b2 : to < k ∧ k ≤ fr
        · rw [if_pos b2] at e
          have := h' _ _ (by omega) (by omega) e
          omega
        · rw [if_neg b2] at e
          have := h' _ _ (by omega) hk e
          omega
theorem siO_inj {mo O : Nat → Nat} {n : Nat} (h : ∀ i k, i < k → k < n → O i ≠ O k) : ∀ j, j ≤ n → ∀ i k, i < k → k < n → siO mo O j i ≠ siO mo O j k
  | 0, _ => h
  | j + 1, hj => mvD_inj (by omega) (siP_le j) (siO_inj h j (by omega))
theorem ordW_ok {mo O : Nat → Nat} {n way t : Nat} (hk : okW n way t) : (∀ k, k < n → ordW mo n way t O k < n) ∧ (∀ i k, i < k → k < n → ordW mo n way t O i ≠ ordW mo n way t O k) := by
  obtain ⟨h1, h2, h3⟩ := hk
  have i1 : ∀ i, i < n → idO n O i < n := fun i hi => by unfold idO; rw [if_pos hi]; exact hi
  have i2 : ∀ i k, i < k → k < n → idO n O i ≠ idO n O k := fun i k h hk => by unfold idO; rw [if_pos (by omega), if_pos hk]; omega
  unfold ordW
  by_cases c0 : way = 0
  · simp only [c0, if_true]
    have p := drS_PI (O := O) (h3 c0) n (Nat.le_refl n)
    exact ⟨p.2.2.1, fun i k h hk => p.2.2.2.2 i k h hk⟩
  · simp only [c0, if_false]
    by_cases c1 : way = 1
    · simp only [c1, if_true]
      exact ⟨i1, i2⟩
    · simp only [c1, if_false]
      exact ⟨siO_lt i1 n (Nat.le_refl n), siO_inj i2 n (Nat.le_refl n)⟩

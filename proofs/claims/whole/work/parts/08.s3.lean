/-! EACH OPERATION'S RULE: fields and arrays, read and written -/
theorem mDy_put {B : mBd} {σ τ : mS} {H H1 : Heap} (hy : mDy B σ H) {q t n : Nat} (hq : σ.2.2.2[q]? = some (t, n)) (hs : τ.2.2.2 = σ.2.2.2) (hz : H1.size = H.size) (oq : ∀ x : Nat, x ≠ bO B + q → H1[x]? = H[x]?) (hat : va_at (bD B) vwCl (bO B + q, mCellOf B τ q (t, n)) H1) (ho : ∀ k, k ≠ q → ∀ r, mCellOf B τ k r = mCellOf B σ k r) (hr : ∀ c k d : Nat, τ.2.1 c k = some d → d < σ.2.2.2.length) (hb : ∀ c n : Nat, σ.2.2.2[c]? = some (22, n) → ∀ i, fits .boolean (.int (τ.1 c i)) = true) : mDy B τ H1 := by
  refine ⟨by rw [hz, hs]; exact hy.1, fun k x hx => ?_, by rw [hs]; exact hy.2.2.1, by rw [hs]; exact hr, by rw [hs]; exact hy.2.2.2.2.1, by rw [hs]; exact hb⟩
  obtain ⟨h1, rfl⟩ := mWs_at hx
  rw [hs] at h1
  unfold mCell
  rw [hs]
  by_cases e : k = q
  · subst e
    rw [List.getD_eq_getElem?_getD, hq]
    exact hat
  · have hk : (mWs B σ)[k]? = some (bO B + k, mCellOf B σ k (σ.2.2.2.getD k (99, 0))) := by
      unfold mWs mCell
      rw [List.getElem?_map, List.getElem?_range h1]
      rfl
    rw [ho k e]
    exact (hy.2.1 k _ hk).kept (oq _ (fun z => e (by have z9 : bO B + k = bO B + q := z; omega)))
theorem mCo_int {B : mBd} {σ : mS} {q t n : Nat} (h : t = 20 ∨ t = 21 ∨ t = 22) : mCellOf B σ q (t, n) = .inl (bC B t, n, .inl (σ.1 q)) := by
  rcases h with rfl | rfl | rfl <;> rfl
theorem mCo_ref {B : mBd} {σ : mS} {q t n : Nat} (h : t = 23 ∨ t = 24) : mCellOf B σ q (t, n) = .inl (bC B t, n, .inr (.inr (.inr (.inr (fun i => (σ.2.1 q i).map (bO B + ·)))))) := by
  rcases h with rfl | rfl <;> rfl
theorem mU_ne {M : mI} {c i k : Nat} {x : Int32} (h : k ≠ c) : mU M c i x k = M k := if_neg h
theorem mU_eq {M : mI} {c i : Nat} {x : Int32} : mU M c i x c = upd (M c) i x := if_pos rfl
theorem mCo_U {B : mBd} {σ : mS} {c i k : Nat} {x : Int32} (h : k ≠ c) (r : Nat × Nat) : mCellOf B (mU σ.1 c i x, σ.2) k r = mCellOf B σ k r := by
  unfold mCellOf
  have e : ∀ t, mFv B (mU σ.1 c i x, σ.2) k t = mFv B σ k t := by
    intro t
    funext j
    unfold mFv
    simp only [mU_ne h]
  simp only [e, mU_ne h]
theorem mFits {x : Int32} (t : Nat) (ht : t = 22) : fits .boolean (.int (if t = 20 then vp_nar .byte x else vp_nar .boolean x)) = true := by
  subst ht
  show fits .boolean (.int (vp_nar .boolean x)) = true
  have h : vp_nar .boolean x = 0 ∨ vp_nar .boolean x = 1 := by
    have e : vp_nar .boolean x = x &&& 1 := rfl
    rw [e, pk_and x 1 (by decide)]
    have : x.toBitVec.toNat % 2 ^ 1 = 0 ∨ x.toBitVec.toNat % 2 ^ 1 = 1 := by omega
    rcases this with h | h <;> rw [h]
    · exact Or.inl rfl
    · exact Or.inr rfl
  rcases h with h | h <;> rw [h] <;> decide
section S3
variable {B : mBd} {cap n0 : Nat × Nat} {p : Program} {l : Launch} {e : Env} {R : Room} {s : State} {m : MethodId} {args : Array Value} {below : List Frame} {meth : Method} {c : Code} {Qk : State → Prop}
variable {md pc a b : Nat} {cal : mCal} {X : mX} {Qm : mPost} {v : Value} {sw : List (Int32 × Nat)} {lv st : List Value} {σ : mS}
theorem mIn {i : Int32} {cA n : Nat} {f : Nat → Value} (h : vp_in i n) : ¬ (i < 0 ∨ (arrV cA n f).slots.size ≤ i.toNatClampNeg) := by
  rw [arrV_size]
  exact h
theorem mTy_at {B : mBd} {t : Nat} {ty : FieldType} (h : (t, ty) ∈ [(20, FieldType.byte), (21, .int), (22, .boolean), (23, .object "TicketsDrawn$State"), (24, .array .int)]) : (mTys B)[t - 20]? = some (bC B t, ty) := by
  simp only [List.mem_cons, Prod.mk.injEq, List.not_mem_nil, or_false] at h
  rcases h with ⟨rfl, rfl⟩ | ⟨rfl, rfl⟩ | ⟨rfl, rfl⟩ | ⟨rfl, rfl⟩ | ⟨rfl, rfl⟩ <;> rfl
theorem s_iald (F : mFx B md p s m args meth c) (hd : decode (mBy md) pc = .ok (.iaload, 1)) (h : o_iald cal (bX B) cap Qm (mGo B cap n0 p l e R s m args below meth c (mML md) Qk) (pc + 1) a b v sw lv st σ) : (mGo B cap n0 p l e R s m args below meth c (mML md) Qk) pc lv st σ := by
  obtain ⟨q, i, n, f, r, rfl, hq, hi, h⟩ := h
  intro H locs cells slots ls hy hS hl hu
  have h2 := h H locs cells slots ls hy hS hl hu
  obtain ⟨hK, -, -, -, hO, hX, hXb, -, hT, -⟩ := F.2.2.2.2.2.2
  unfold mRd at hq
  cases hc : σ.2.2.2[q]? with
  | some w =>
    obtain ⟨t, k⟩ := w
    rw [hc] at hq
    cases hq
    show W p l e R s m args below meth c H locs cells slots Qk (F0 m pc ls (.int i :: mTr B (.ref q) :: r.map (mTr B)))
    rw [mTr_lt (mCl hy hc)]
    exact va_iald F.1 F.2.1 hK hy.2.1 q 1 (mWs_get hc) rfl hi hd h2
  | none =>
    rw [hc] at hq
    unfold mExt at hq
    show W p l e R s m args below meth c H locs cells slots Qk (F0 m pc ls (.int i :: mTr B (.ref q) :: r.map (mTr B)))
    by_cases e1 : q = 1000
    · subst e1
      rw [if_pos rfl] at hq
      cases hq
      exact va_sld (H0 := s.heap) (A := bA B) F.1 F.2.1 hX (Nat.lt_of_lt_of_le hXb hO) (Nat.not_le.mpr hXb) hS hi hd h2
    · rw [if_neg e1] at hq
      by_cases e2 : q = 1001
      · subst e2
        rw [if_pos rfl] at hq
        cases hq
        exact va_ti F.1 F.2.1 hT hS hi rfl hd h2
      · rw [if_neg e2] at hq
        by_cases e3 : 1200 ≤ q ∧ q < 1211
        · rw [if_pos e3] at hq
          cases hq
        · rw [if_neg e3] at hq
          cases hq
theorem mSln_ok : ∀ j, j < 11 → mSln.getD j 0 = (mStr.getD j []).length := by decide
theorem s_bald (F : mFx B md p s m args meth c) (hd : decode (mBy md) pc = .ok (.baload, 1)) (h : o_bald cal (bX B) cap Qm (mGo B cap n0 p l e R s m args below meth c (mML md) Qk) (pc + 1) a b v sw lv st σ) : (mGo B cap n0 p l e R s m args below meth c (mML md) Qk) pc lv st σ := by
  obtain ⟨q, i, t, n, f, r, rfl, hq, ht, hi, h⟩ := h
  intro H locs cells slots ls hy hS hl hu
  have h2 := h H locs cells slots ls hy hS hl hu
  obtain ⟨hK, -, -, -, -, -, -, -, -, -, -, -, -, hT, -⟩ := F.2.2.2.2.2.2
  unfold mRd at hq
  cases hc : σ.2.2.2[q]? with
  | some w =>
    obtain ⟨t', k⟩ := w
    rw [hc] at hq
    cases hq
    show W p l e R s m args below meth c H locs cells slots Qk (F0 m pc ls (.int i :: mTr B (.ref q) :: r.map (mTr B)))
    rw [mTr_lt (mCl hy hc)]
    rcases ht with rfl | rfl
    · exact va_bald F.1 F.2.1 hK hy.2.1 q 0 (mWs_get hc) rfl hi hd h2
    · exact va_zald F.1 F.2.1 hK hy.2.1 q 2 (mWs_get hc) rfl hi hd h2
  | none =>
    rw [hc] at hq
    unfold mExt at hq
    show W p l e R s m args below meth c H locs cells slots Qk (F0 m pc ls (.int i :: mTr B (.ref q) :: r.map (mTr B)))
    by_cases e1 : q = 1000
    · rw [if_pos e1] at hq
      cases hq
      omega
    · rw [if_neg e1] at hq
      by_cases e2 : q = 1001
      · rw [if_pos e2] at hq
        cases hq
        omega
      · rw [if_neg e2] at hq
        by_cases e3 : 1200 ≤ q ∧ q < 1211
        · rw [if_pos e3] at hq
          simp only [Option.some.injEq, Prod.mk.injEq] at hq
          obtain ⟨rfl, rfl, rfl⟩ := hq
          obtain ⟨j, rfl⟩ : ∃ j, q = 1200 + j := ⟨q - 1200, by omega⟩
          have hj : j < 11 := by omega
          rw [mTr_ref (by omega), mAd_byt hj]
          have h3 := (hT.1 j hj).2.2.2
          rw [mSln_ok j hj] at h3
          rw [show 1200 + j - 1200 = j by omega] at hi h2
          exact va_tb F.1 F.2.1 h3 hS hi rfl hd h2
        · rw [if_neg e3] at hq
          cases hq
theorem s_aald (F : mFx B md p s m args meth c) (hd : decode (mBy md) pc = .ok (.aaload, 1)) (h : o_aald cal X cap Qm (mGo B cap n0 p l e R s m args below meth c (mML md) Qk) (pc + 1) a b v sw lv st σ) : (mGo B cap n0 p l e R s m args below meth c (mML md) Qk) pc lv st σ := by
  obtain ⟨q, i, t, n, d, r, rfl, hq, ht, hi, hr, h⟩ := h
  intro H locs cells slots ls hy hS hl hu
  have h2 := h H locs cells slots ls hy hS hl hu
  obtain ⟨hK, -⟩ := F.2.2.2.2.2.2
  have hd9 : d < 1000 := Nat.lt_of_lt_of_le (hy.2.2.2.1 _ _ _ hr) hy.2.2.1
  rw [List.map_cons, mTr_lt hd9] at h2
  show W p l e R s m args below meth c H locs cells slots Qk (F0 m pc ls (.int i :: mTr B (.ref q) :: r.map (mTr B)))
  rw [mTr_lt (mCl hy hq)]
  have hlt : i.toNatClampNeg < n := Nat.not_le.mp fun z => hi (Or.inr z)
  have hw := mWs_get (B := B) hq
  rw [mCo_ref ht] at hw
  have hc : H[bO B + q]? = some (vp_cell (bC B t) (n, .inr (.inr (.inr (.inr (fun i => (σ.2.1 q i).map (bO B + ·))))))) := hy.2.1 q _ hw
  rw [vp_cell_q] at hc
  have hv : (arrV (bC B t) n (fun j => va_rf ((σ.2.1 q j).map (bO B + ·)))).slots[i.toNatClampNeg]? = some (.ref (bO B + d)) := by
    rw [arrV_read _ _ hlt, hr]
    rfl
  rcases ht with rfl | rfl
  · exact W.aald (ty := .object "TicketsDrawn$State") F.1 F.2.1 hc ((hK.2 3 _ rfl).1 n _) rfl (fun z => by cases z) (mIn hi) hv rfl rfl hd h2
  · exact W.aald (ty := .array .int) F.1 F.2.1 hc ((hK.2 4 _ rfl).1 n _) rfl (fun z => by cases z) (mIn hi) hv rfl rfl hd h2
theorem s_alen (F : mFx B md p s m args meth c) (hd : decode (mBy md) pc = .ok (.arraylength, 1)) (h : o_alen cal (bX B) cap Qm (mGo B cap n0 p l e R s m args below meth c (mML md) Qk) (pc + 1) a b v sw lv st σ) : (mGo B cap n0 p l e R s m args below meth c (mML md) Qk) pc lv st σ := by
  obtain ⟨q, t, n, f, r, rfl, hq, ht, h⟩ := h
  intro H locs cells slots ls hy hS hl hu
  have h2 := h H locs cells slots ls hy hS hl hu
  obtain ⟨hK, -, -, -, hO, hX, hXb, -, hT, -, -, -, -, hTs, -⟩ := F.2.2.2.2.2.2
  unfold mRd at hq
  cases hc : σ.2.2.2[q]? with
  | some w =>
    obtain ⟨t', k⟩ := w
    rw [hc] at hq
    cases hq
    show W p l e R s m args below meth c H locs cells slots Qk (F0 m pc ls (mTr B (.ref q) :: r.map (mTr B)))
    rw [mTr_lt (mCl hy hc)]
    have hr : t' = 20 ∨ t' = 21 ∨ t' = 22 ∨ t' = 23 ∨ t' = 24 := by
      rcases hy.2.2.2.2.1 q t' k hc with ⟨-, -, -, z⟩ | z <;> omega
    rcases hr with rfl | rfl | rfl | rfl | rfl
    · exact va_alen F.1 F.2.1 hK hy.2.1 q 0 (mWs_get hc) rfl rfl hd h2
    · exact va_alen F.1 F.2.1 hK hy.2.1 q 1 (mWs_get hc) rfl rfl hd h2
    · exact va_alen F.1 F.2.1 hK hy.2.1 q 2 (mWs_get hc) rfl rfl hd h2
    · exact va_alen F.1 F.2.1 hK hy.2.1 q 3 (mWs_get hc) rfl rfl hd h2
    · exact va_alen F.1 F.2.1 hK hy.2.1 q 4 (mWs_get hc) rfl rfl hd h2
  | none =>
    rw [hc] at hq
    unfold mExt at hq
    show W p l e R s m args below meth c H locs cells slots Qk (F0 m pc ls (mTr B (.ref q) :: r.map (mTr B)))
    by_cases e1 : q = 1000
    · subst e1
      rw [if_pos rfl] at hq
      cases hq
      exact va_slen (H0 := s.heap) (A := bA B) F.1 F.2.1 hX (Nat.lt_of_lt_of_le hXb hO) (Nat.not_le.mpr hXb) hS hd h2
    · rw [if_neg e1] at hq
      by_cases e2 : q = 1001
      · subst e2
        rw [if_pos rfl] at hq
        cases hq
        exact va_tlen F.1 F.2.1 hT hS rfl hd h2
      · rw [if_neg e2] at hq
        by_cases e3 : 1200 ≤ q ∧ q < 1211
        · rw [if_pos e3] at hq
          simp only [Option.some.injEq, Prod.mk.injEq] at hq
          obtain ⟨rfl, rfl, rfl⟩ := hq
          obtain ⟨j, rfl⟩ : ∃ j, q = 1200 + j := ⟨q - 1200, by omega⟩
          have hj : j < 11 := by omega
          rw [mTr_ref (by omega), mAd_byt hj]
          have h3 := (hTs.1 j hj).2.2.2
          rw [mSln_ok j hj] at h3
          rw [show 1200 + j - 1200 = j by omega] at h2
          exact va_tlen F.1 F.2.1 h3 hS rfl hd h2
        · rw [if_neg e3] at hq
          cases hq
theorem mUpdC {cA n k : Nat} {f : Nat → Int32} {x : Int32} : (vp_cell cA (n, .inl f)).setSlot k (.int x) = vp_cell cA (n, .inl (upd f k x)) := by
  rw [vp_cell_i, vp_cell_i, arrV_store]
  congr 1
  funext z
  by_cases hz : z = k
  · subst hz
    simp [updV, upd]
  · simp [updV, upd, hz]
theorem s_iast (F : mFx B md p s m args meth c) (hd : decode (mBy md) pc = .ok (.iastore, 1)) (h : o_iast cal X cap Qm (mGo B cap n0 p l e R s m args below meth c (mML md) Qk) (pc + 1) a b v sw lv st σ) : (mGo B cap n0 p l e R s m args below meth c (mML md) Qk) pc lv st σ := by
  obtain ⟨q, i, n, x, r, rfl, hq, hi, h⟩ := h
  intro H locs cells slots ls hy hS hl hu
  obtain ⟨hK, -⟩ := F.2.2.2.2.2.2
  show W p l e R s m args below meth c H locs cells slots Qk (F0 m pc ls (.int x :: .int i :: mTr B (.ref q) :: r.map (mTr B)))
  rw [mTr_lt (mCl hy hq)]
  have hc : H[bO B + q]? = some (vp_cell (bC B 21) (n, .inl (σ.1 q))) := hy.2.1 q _ (mWs_get hq)
  refine W.iast F.1 F.2.1 hc ((hK.2 1 _ rfl).1 n _) (fun z => by cases z) (mIn hi) rfl rfl hd fun H1 e1 z1 o1 => ?_
  refine h H1 _ cells slots ls (mDy_put hy hq rfl z1 o1 ?_ (fun k hk w => mCo_U hk w) hy.2.2.2.1 (fun k n' hk j => ?_)) (hS.put z1 o1 (Nat.le_add_right _ _)) hl hu
  · show H1[bO B + q]? = some (vp_cell (bC B 21) (n, .inl (mU σ.1 q i.toNatClampNeg x q)))
    rw [e1, mU_eq, mUpdC]
  · have hne : k ≠ q := fun z => by
      subst z
      cases hk.symm.trans hq
    show fits .boolean (.int (mU σ.1 q i.toNatClampNeg x k j)) = true
    rw [mU_ne hne]
    exact hy.2.2.2.2.2 k n' hk j
theorem s_bast (F : mFx B md p s m args meth c) (hd : decode (mBy md) pc = .ok (.bastore, 1)) (h : o_bast cal X cap Qm (mGo B cap n0 p l e R s m args below meth c (mML md) Qk) (pc + 1) a b v sw lv st σ) : (mGo B cap n0 p l e R s m args below meth c (mML md) Qk) pc lv st σ := by
  obtain ⟨q, i, t, n, x, r, rfl, hq, ht, hi, h⟩ := h
  intro H locs cells slots ls hy hS hl hu
  obtain ⟨hK, -⟩ := F.2.2.2.2.2.2
  show W p l e R s m args below meth c H locs cells slots Qk (F0 m pc ls (.int x :: .int i :: mTr B (.ref q) :: r.map (mTr B)))
  rw [mTr_lt (mCl hy hq)]
  have ht3 : t = 20 ∨ t = 21 ∨ t = 22 := by omega
  have hw := mWs_get (B := B) hq
  rw [mCo_int ht3] at hw
  have hc : H[bO B + q]? = some (vp_cell (bC B t) (n, .inl (σ.1 q))) := hy.2.1 q _ hw
  have key : ∀ (H1 : Heap) (x' : Int32), (.int x' : Value) = narrow (if t = 20 then .byte else .boolean) (.int x) → H1[bO B + q]? = some ((vp_cell (bC B t) (n, .inl (σ.1 q))).setSlot i.toNatClampNeg (.int x')) → H1.size = H.size → (∀ z, z ≠ bO B + q → H1[z]? = H[z]?) → W p l e R s m args below meth c H1 (locs ++ [⟨bO B + q, i.toNatClampNeg⟩]) cells slots Qk (F0 m (pc + 1) ls (r.map (mTr B))) := by
    intro H1 x' hx' e1 z1 o1
    have hx2 : x' = if t = 20 then vp_nar .byte x else vp_nar .boolean x := by
      by_cases e9 : t = 20
      · rw [if_pos e9] at hx' ⊢
        unfold vp_nar
        rw [← hx']
      · rw [if_neg e9] at hx' ⊢
        unfold vp_nar
        rw [← hx']
    refine h H1 _ cells slots ls (mDy_put hy hq rfl z1 o1 ?_ (fun k hk w => mCo_U hk w) hy.2.2.2.1 (fun k n' hk j => ?_)) (hS.put z1 o1 (Nat.le_add_right _ _)) hl hu
    · rw [mCo_int ht3]
      show H1[bO B + q]? = some (vp_cell (bC B t) (n, .inl (mU σ.1 q i.toNatClampNeg _ q)))
      rw [e1, mU_eq, mUpdC, hx2]
    · show fits .boolean (.int (mU σ.1 q i.toNatClampNeg _ k j)) = true
      by_cases hne : k = q
      · subst hne
        cases hk.symm.trans hq
        rw [mU_eq]
        unfold upd
        by_cases hj : j = i.toNatClampNeg
        · rw [if_pos hj]
          exact mFits 22 rfl
        · rw [if_neg hj]
          exact hy.2.2.2.2.2 k _ hq j
      · rw [mU_ne hne]
        exact hy.2.2.2.2.2 k n' hk j
  rcases ht with rfl | rfl
  · exact W.bast F.1 F.2.1 hc ((hK.2 0 _ rfl).1 n _) (fun z => by cases z) (mIn hi) rfl rfl hd fun H1 e1 z1 o1 => key H1 _ rfl e1 z1 o1
  · exact W.zast F.1 F.2.1 hc ((hK.2 2 _ rfl).1 n _) (fun z => by cases z) (mIn hi) rfl rfl hd fun H1 e1 z1 o1 => key H1 _ rfl e1 z1 o1
end S3

/-! THE TIE between the small machine's cells and the heap -/
/-- what stays for a whole run: the tables' numbers, where the law's cells begin, the array kinds, the script, the addresses of what nobody writes -/
abbrev mBd : Type := va_G × Nat × (Nat → Nat) × mX × Nat × Nat × (Nat → Nat) × (Nat → Nat) × Value
def bD (B : mBd) : va_G := B.1
def bO (B : mBd) : Nat := B.2.1
def bC (B : mBd) : Nat → Nat := B.2.2.1
def bX (B : mBd) : mX := B.2.2.2.1
def bS (B : mBd) : Nat := B.2.2.2.2.1
def bF (B : mBd) : Nat := B.2.2.2.2.2.1
def bK (B : mBd) : Nat → Nat := B.2.2.2.2.2.2.1
def bV (B : mBd) : Nat → Nat := B.2.2.2.2.2.2.2.1
def bM (B : mBd) : Value := B.2.2.2.2.2.2.2.2
def bA (B : mBd) : Nat → Prop := fun q => bO B ≤ q
def mAd (B : mBd) (c : Nat) : Nat := if c = 1000 then bS B else if c = 1001 then bF B else if 1100 ≤ c ∧ c < 1111 then bK B (c - 1100) else if 1200 ≤ c ∧ c < 1211 then bV B (c - 1200) else bO B + c
def mTr (B : mBd) (v : Value) : Value := match v with
  | .ref c => if c = 1300 then bM B else .ref (mAd B c)
  | u => u
theorem mTr_ref {B : mBd} {c : Nat} (h : c ≠ 1300) : mTr B (.ref c) = .ref (mAd B c) := if_neg h
theorem mAd_lt {B : mBd} {c : Nat} (h : c < 1000) : mAd B c = bO B + c := by
  unfold mAd
  rw [if_neg (by omega), if_neg (by omega), if_neg (by omega), if_neg (by omega)]
theorem mTr_lt {B : mBd} {c : Nat} (h : c < 1000) : mTr B (.ref c) = .ref (bO B + c) := by
  rw [mTr_ref (by omega), mAd_lt h]
theorem mTr_cat {B : mBd} (hm : (bM B).category = 1) (v : Value) : (mTr B v).category = v.category := by
  cases v with
  | ref c =>
    show (if c = 1300 then bM B else .ref (mAd B c)).category = 1
    by_cases h : c = 1300
    · rw [if_pos h, hm]
    · rw [if_neg h]; rfl
  | _ => rfl
def mTys (B : mBd) : List (ClassId × FieldType) := [(bC B 20, .byte), (bC B 21, .int), (bC B 22, .boolean), (bC B 23, .object "TicketsDrawn$State"), (bC B 24, .array .int)]
def mFv (B : mBd) (σ : mS) (c t k : Nat) : Value := match mTy t k with
  | .int => .int (σ.1 c k)
  | .boolean => .int (σ.1 c k)
  | .long => .long (σ.2.2.1 c k)
  | _ => va_rf ((σ.2.1 c k).map (bO B + ·))
def mCellOf (B : mBd) (σ : mS) (c : Nat) (q : Nat × Nat) : va_E :=
  if q.1 < 12 then .inr (q.1, (List.range q.2).map (mFv B σ c q.1))
  else if q.1 < 23 then .inl (bC B q.1, q.2, .inl (σ.1 c))
  else .inl (bC B q.1, q.2, .inr (.inr (.inr (.inr (fun i => (σ.2.1 c i).map (bO B + ·))))))
def mCell (B : mBd) (σ : mS) (c : Nat) : va_E := mCellOf B σ c (σ.2.2.2.getD c (99, 0))
def mWs (B : mBd) (σ : mS) : va_W := (List.range σ.2.2.2.length).map (fun c => (bO B + c, mCell B σ c))
theorem mWs_get {B : mBd} {σ : mS} {c : Nat} {q : Nat × Nat} (h : σ.2.2.2[c]? = some q) : (mWs B σ)[c]? = some (bO B + c, mCellOf B σ c q) := by
  have hl : c < σ.2.2.2.length := (List.getElem?_eq_some_iff.mp h).1
  unfold mWs mCell
  rw [List.getElem?_map, List.getElem?_range hl]
  simp [List.getD_eq_getElem?_getD, h]
theorem mWs_at {B : mBd} {σ : mS} {c : Nat} {x : Nat × va_E} (h : (mWs B σ)[c]? = some x) : c < σ.2.2.2.length ∧ x = (bO B + c, mCell B σ c) := by
  unfold mWs at h
  rw [List.getElem?_map] at h
  by_cases hl : c < σ.2.2.2.length
  · rw [List.getElem?_range hl] at h
    exact ⟨hl, (Option.some.inj h).symm⟩
  · rw [List.getElem?_eq_none (by simpa using hl)] at h
    cases h
theorem mWs_D (B : mBd) (σ : mS) : va_D (bA B) (mWs B σ) := by
  refine ⟨fun i j p q hi hj he => ?_, fun k q hk => ?_⟩
  · obtain ⟨-, rfl⟩ := mWs_at hi
    obtain ⟨-, rfl⟩ := mWs_at hj
    have he' : bO B + i = bO B + j := he
    omega
  · obtain ⟨-, rfl⟩ := mWs_at hk
    exact Nat.le_add_right _ _
theorem mWs_set {B : mBd} {σ τ : mS} {c : Nat} {q : Nat × Nat} {x : va_E} (h : σ.2.2.2[c]? = some q) (hs : τ.2.2.2 = σ.2.2.2) (hx : mCellOf B τ c q = x) (ho : ∀ k, k ≠ c → ∀ r, mCellOf B τ k r = mCellOf B σ k r) : (mWs B σ).set c (bO B + c, x) = mWs B τ := by
  have hl : c < σ.2.2.2.length := (List.getElem?_eq_some_iff.mp h).1
  apply List.ext_getElem?
  intro k
  by_cases hk : k < σ.2.2.2.length
  · have h1 : ∀ (ρ : mS), ρ.2.2.2 = σ.2.2.2 → (mWs B ρ)[k]? = some (bO B + k, mCellOf B ρ k (σ.2.2.2.getD k (99, 0))) := by
      intro ρ hρ
      unfold mWs mCell
      rw [List.getElem?_map, hρ, List.getElem?_range hk]
      rfl
    rw [h1 τ hs, List.getElem?_set]
    by_cases e : c = k
    · subst e
      rw [if_pos rfl, if_pos (by unfold mWs; simpa using hl), ← hx, List.getD_eq_getElem?_getD, h]
      rfl
    · rw [if_neg e, h1 σ rfl, ho k (fun z => e z.symm)]
  · have hn : ∀ (ρ : mS), ρ.2.2.2 = σ.2.2.2 → (mWs B ρ)[k]? = none := by
      intro ρ hρ
      apply List.getElem?_eq_none
      unfold mWs
      rw [List.length_map, List.length_range, hρ]
      omega
    rw [hn τ hs, List.getElem?_set, hn σ rfl]
    have : c ≠ k := by omega
    rw [if_neg this]
def mShOk (t n : Nat) : Prop := (∃ q : vw_C, vwCl[t]? = some q ∧ q.2.2 = n ∧ t < 12) ∨ (20 ≤ t ∧ t ≤ 24)
/-- the heap holds the cells -/
def mDy (B : mBd) (σ : mS) (H : Heap) : Prop := H.size = bO B + σ.2.2.2.length ∧ va_P (bD B) vwCl (mWs B σ) H ∧ σ.2.2.2.length ≤ 1000 ∧ (∀ c k d : Nat, σ.2.1 c k = some d → d < σ.2.2.2.length) ∧ (∀ c t n : Nat, σ.2.2.2[c]? = some (t, n) → mShOk t n) ∧ (∀ c n : Nat, σ.2.2.2[c]? = some (22, n) → ∀ i, fits .boolean (.int (σ.1 c i)) = true)
/-- the words that every method has -/
def gT : List Cond := lw_tbl.filter goodWord
def mNest : List Cond := lw_tbl.filter (fun w => match w with | .methodLinkNest .. => true | .fieldLinkNest .. => true | _ => false)
def mSix : List Nat := [61, 67, 69, 71, 73, 75, 77, 79, 81, 83, 85]
def mStx : List String := ["if", "and", "not", "part", "whole", "none", "days", "price", "size", "row", "back"]
def mSln : List Nat := [2, 3, 3, 4, 5, 4, 4, 5, 4, 3, 4]
/-- what holds of the tables and of the cells that nobody writes, at a method's start -/
def mSt (B : mBd) (s : State) : Prop :=
  va_K (bD B) vwCl (mTys B) s ∧ (∀ w ∈ mNest, va_Nw w s) ∧ va_AO "TicketsDrawn$State" s ∧ (∃ kA : Class, s.vm.classes[bC B 24]? = some kA ∧ kA.kind = .array (bC B 21) (.array .int)) ∧ bO B ≤ s.heap.size ∧
  va_X (bS B) (bX B).1 (bX B).2 s s.heap ∧ bS B < bO B ∧
  va_Z "TicketsDrawn" "FACTORIALS" "[I" (.ref (bF B)) (bA B) s s.heap ∧ va_T .int (bF B) 13 (fun j => .int (mFac.getD j 0)) (bA B) s s.heap ∧
  va_Z "java/lang/String" "COMPACT_STRINGS" "Z" (.int 1) (bA B) s s.heap ∧ va_Z "jdk/internal/util/Preconditions" "SIOOBE_FORMATTER" "Ljava/util/function/BiFunction;" (bM B) (bA B) s s.heap ∧ (bM B).category = 1 ∧
  (∀ j, j < 11 → vk_R "TicketsDrawn$Tokens" (mSix.getD j 0) (mStx.getD j "") (bK B j) s) ∧ vk_S 11 mSln mStr (bK B) (bV B) (bA B) s s.heap ∧ (bX B).1 < 2 ^ 31
/-- the locals -/
def mRl (v : Value) : Bool := match v with
  | .int _ => true
  | .long _ => true
  | .ref _ => true
  | _ => false
def mLv (B : mBd) (ls : Array Slot) (nL : Nat) (lv : List Value) : Prop := ls.size = nL ∧ lv_wf ls ∧ lv.length = nL ∧ (∀ (i : Nat) (v : Value), lv[i]? = some v → mRl v = true → ls[i]? = some (.val (mTr B v))) ∧ (∀ (i : Nat) (x : Int64), lv[i]? = some (.long x) → ∃ k, lv[i + 1]? = some (.retAddr k))
def mLvl (B : mBd) (lv : List Value) : List (Nat × Value) := (List.range lv.length).filterMap (fun i => (lv[i]?).bind fun v => if mRl v then some (i, mTr B v) else none)
theorem mLv_has {B : mBd} {ls : Array Slot} {nL : Nat} {lv : List Value} (h : mLv B ls nL lv) : lv_has ls nL (mLvl B lv) := by
  refine ⟨h.1, h.2.1, fun q hq => ?_⟩
  obtain ⟨i, -, hi⟩ := List.mem_filterMap.mp hq
  cases hv : lv[i]? with
  | none => rw [hv] at hi; cases hi
  | some v =>
    rw [hv] at hi
    by_cases hr : mRl v = true
    · simp only [Option.bind_some, hr, if_true] at hi
      cases hi
      exact h.2.2.2.1 i v hv hr
    · simp only [Option.bind_some, hr] at hi
      cases hi
theorem mLv_in {B : mBd} {lv : List Value} {i : Nat} {v : Value} (hv : lv[i]? = some v) (hr : mRl v = true) : (i, mTr B v) ∈ mLvl B lv := by
  refine List.mem_filterMap.mpr ⟨i, List.mem_range.mpr (List.getElem?_eq_some_iff.mp hv).1, ?_⟩
  simp [hv, hr]
theorem mLv_put {B : mBd} {ls ls' : Array Slot} {nL a : Nat} {lv : List Value} {u : Value} (hm : (bM B).category = 1) (h : mLv B ls nL lv) (hk : mLk lv a) (hu : u.category = 1) (h' : lv_has ls' nL ((a, mTr B u) :: (mLvl B lv).filter (fun q => !(q.1 == a) && !(q.1 + 1 == a && q.2.category == 2)))) : mLv B ls' nL (lv.set a u) := by
  refine ⟨h'.1, h'.2.1, by rw [List.length_set]; exact h.2.2.1, fun i v hi hr => ?_, fun i x hi => ?_⟩
  · by_cases e : a = i
    · subst e
      have hl : a < lv.length := by
        unfold mLk at hk
        cases hq : lv[a]? with
        | none => rw [hq] at hk; cases hk
        | some _ => exact (List.getElem?_eq_some_iff.mp hq).1
      rw [List.getElem?_set, if_pos rfl, if_pos hl] at hi
      cases hi
      exact h'.2.2 (a, mTr B u) List.mem_cons_self
    · rw [List.getElem?_set, if_neg e] at hi
      refine h'.2.2 (i, mTr B v) (List.mem_cons_of_mem _ (List.mem_filter.mpr ⟨mLv_in hi hr, ?_⟩))
      have e2 : ¬ (i = a) := fun z => e z.symm
      have e3 : ¬ (i + 1 = a ∧ (mTr B v).category = 2) := by
        rintro ⟨z1, z2⟩
        rw [mTr_cat hm] at z2
        cases v with
        | long x =>
          obtain ⟨k, hk2⟩ := h.2.2.2.2 i x hi
          rw [z1] at hk2
          unfold mLk at hk
          rw [hk2] at hk
          cases hk
        | int x => cases z2
        | ref c => cases z2
        | _ => cases hr
      simp only [Bool.and_eq_true, Bool.not_eq_true', beq_eq_false_iff_ne, ne_eq, e2, not_false_eq_true, true_and, Bool.and_eq_false_imp, beq_iff_eq]
      intro z1 z2
      exact e3 ⟨z1, z2⟩
  · by_cases e : a = i
    · subst e
      have hl : a < lv.length := by
        have := (List.getElem?_eq_some_iff.mp hi).1
        rwa [List.length_set] at this
      rw [List.getElem?_set, if_pos rfl, if_pos hl] at hi
      cases hi
      cases hu
    · rw [List.getElem?_set, if_neg e] at hi
      obtain ⟨k, hk2⟩ := h.2.2.2.2 i x hi
      refine ⟨k, ?_⟩
      rw [List.getElem?_set, if_neg ?_]
      · exact hk2
      · intro z
        unfold mLk at hk
        rw [z, hk2] at hk
        cases hk

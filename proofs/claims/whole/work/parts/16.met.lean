/-! EVERY METHOD that ends on the small machine has its contract -/
def mFlat (av : List Value) : List Value := av.flatMap fun u => if u.category = 2 then [u, .retAddr 0] else [u]
theorem mFlat_cons (u : Value) (av : List Value) : mFlat (u :: av) = (if u.category = 2 then [u, .retAddr 0] else [u]) ++ mFlat av := rfl
theorem mC12 (u : Value) : u.category = 2 ∨ u.category = 1 := by cases u <;> simp [Value.category]
theorem mFlat_len : ∀ av : List Value, (mFlat av).length = (av.map fun u => u.category).sum
  | [] => rfl
  | u :: av => by
    rw [mFlat_cons, List.length_append, mFlat_len av, List.map_cons, List.sum_cons]
    rcases mC12 u with h | h <;> rw [h] <;> simp
theorem mSl_len : ∀ vs : List Value, (lg_sl vs).length = (vs.map fun u => u.category).sum
  | [] => rfl
  | u :: vs => by
    have h9 : lg_sl (u :: vs) = (if u.category = 2 then [.val u, .second] else [.val u]) ++ lg_sl vs := rfl
    rw [h9, List.length_append, mSl_len vs, List.map_cons, List.sum_cons]
    rcases mC12 u with h | h <;> rw [h] <;> simp
theorem mFlat_in {B : mBd} (hm : (bM B).category = 1) : ∀ (av : List Value) (k i : Nat) (v : Value), (mFlat av)[i]? = some v → mRl v = true → (k + i, mTr B v) ∈ lv_args k (av.map (mTr B))
  | [], _, _, _, h, _ => by cases h
  | u :: av, k, i, v, h, hr => by
    rw [mFlat_cons] at h
    rw [List.map_cons]
    unfold lv_args
    rw [mTr_cat hm]
    rcases mC12 u with hc | hc
    · rw [if_pos hc] at h ⊢
      match i, h with
      | 0, h =>
        cases h
        exact List.mem_cons_self
      | 1, h =>
        cases h
        cases hr
      | j + 2, h =>
        have h2 := mFlat_in hm av (k + 2) j v h hr
        rw [show k + 2 + j = k + (j + 2) by omega] at h2
        exact List.mem_cons_of_mem _ h2
    · rw [if_neg (by omega)] at h ⊢
      match i, h with
      | 0, h =>
        cases h
        exact List.mem_cons_self
      | j + 1, h =>
        have h2 := mFlat_in hm av (k + 1) j v h hr
        rw [show k + 1 + j = k + (j + 1) by omega] at h2
        exact List.mem_cons_of_mem _ h2
theorem mFlat_two : ∀ (av : List Value) (i : Nat) (x : Int64), (mFlat av)[i]? = some (.long x) → (mFlat av)[i + 1]? = some (.retAddr 0)
  | [], _, _, h => by cases h
  | u :: av, i, x, h => by
    rw [mFlat_cons] at h ⊢
    rcases mC12 u with hc | hc
    · rw [if_pos hc] at h ⊢
      match i, h with
      | 0, _ => rfl
      | 1, h => cases h
      | j + 2, h => exact mFlat_two av j x h
    · rw [if_neg (by omega)] at h ⊢
      match i, h with
      | 0, h =>
        cases h
        cases hc
      | j + 1, h => exact mFlat_two av j x h
theorem mEnt {B : mBd} (hm : (bM B).category = 1) {md : Nat} {av : List Value} (h : (av.map fun u => u.category).sum ≤ mML md) : mLv B ((lg_sl (av.map (mTr B)) ++ List.replicate (mML md - (lg_sl (av.map (mTr B))).length) Slot.unset).toArray) (mML md) (mLoc md av) := by
  have hcs : ∀ l : List Value, ((l.map (mTr B)).map fun u => u.category) = l.map fun u => u.category := by
    intro l
    rw [List.map_map]
    apply List.map_congr_left
    intro u _
    exact mTr_cat hm u
  have hs : (lg_sl (av.map (mTr B))).length ≤ mML md := by
    rw [mSl_len, hcs]
    exact h
  have he := lv_entry (av.map (mTr B)) hs
  have hfl : ∀ (i : Nat) (v : Value), (mLoc md av)[i]? = some v → v ≠ .null → (mFlat av)[i]? = some v := by
    intro i v hi hv
    have hi : (mFlat av ++ List.replicate (mML md - (av.map fun u => u.category).sum) .null)[i]? = some v := hi
    by_cases hl : i < (mFlat av).length
    · rw [List.getElem?_append_left hl] at hi
      exact hi
    · rw [List.getElem?_append_right (by omega)] at hi
      have := List.mem_of_getElem? hi
      rw [List.mem_replicate] at this
      exact absurd this.2 hv
  refine ⟨he.1, he.2.1, ?_, fun i v hi hr => ?_, fun i x hi => ?_⟩
  · have := mFlat_len av
    unfold mLoc
    rw [List.length_append, List.length_replicate]
    unfold mFlat at this
    omega
  · have h1 := hfl i v hi (fun z => by rw [z] at hr; cases hr)
    have h2 := mFlat_in (B := B) hm av 0 i v h1 hr
    rw [Nat.zero_add] at h2
    exact he.2.2 _ h2
  · have h1 := hfl i _ hi (fun z => by cases z)
    have h2 := mFlat_two av i x h1
    refine ⟨0, ?_⟩
    have hl := (List.getElem?_eq_some_iff.mp h2).1
    unfold mLoc
    show (mFlat av ++ _)[i + 1]? = _
    rw [List.getElem?_append_left hl]
    exact h2
def mRm (d md : Nat) : Room := { frames := d + 1, cells := (mAl md).1, slots := (mAl md).2, locals := 40 * d + 200 }
theorem mMet_body {B : mBd} {l : Launch} {d md : Nat} {av : List Value} {σ : mS} {Qm : mPost} (h0 : 0 < md) (hlt : md < mTl.length) (hne : md ≠ 2) (hcall : mCall (bX B) (d + 1) md av σ Qm) (hC : ∀ md2 av σ2 Q2, 0 < md2 → md2 < mTl.length → md2 ≠ 2 → mCall (bX B) d md2 av σ2 Q2 → mCok B l (mRm d md) md2 av σ2 Q2) : Met l (mYs md) (mWd md) (mRm d md) (mPc B σ av) (mQc B σ md Qm) (mAl md).1 (mAl md).2 (bA B) := by
  obtain ⟨hm1, hm2, hm3, hm4, hm5, hm6⟩ := mMth_ok hlt
  refine Met.ofW (cc := mBy md) (maxL := mML md) (ret := mRt md) (hm3 hne) rfl ?_
  intro p e s m args below meth c s₁ Bd hml hv
  obtain ⟨rfl, hSt, hDy⟩ := hv
  have F : mFx B md p s m (av.map (mTr B)).toArray meth c := ⟨Bd.exec, Bd.bytes, hml, by rw [hm1]; exact findClass_of_methodNamed Bd.named, fun w hw => atoms_spec (ws := mWd md) Bd.pre w (List.mem_cons_of_mem _ hw), fun hal => by rw [(name_of_methodNamed Bd.named Bd.method).1]; exact (hm6 hal).1, hSt⟩
  rw [lg_entry_eq]
  have key := hcall.2 (mGo B (σ.2.2.2.length + (mAl md).1, mSum σ.2.2.2 + (mAl md).2) (σ.2.2.2.length, mSum σ.2.2.2) p l e (mRm d md) s m (av.map (mTr B)).toArray below meth c (mML md) (MQ below (mQc B σ md Qm) (av.map (mTr B)).toArray s (mAl md).1 (mAl md).2 (bA B))) (mStep F ⟨Nat.le_add_left 1 d, by show 100 ≤ 40 * d + 200; omega⟩ hC ?_ ?_)
  · refine key s.heap [] 0 0 _ hDy va_S.rf (mEnt hSt.2.2.2.2.2.2.2.2.2.2.2.1 hcall.1) ⟨Nat.le_add_right _ _, Nat.le_add_right _ _, ?_, ?_, Nat.le_refl _, Nat.le_refl _⟩
    · show 0 + (σ.2.2.2.length + (mAl md).1 - σ.2.2.2.length) ≤ (mAl md).1
      omega
    · show 0 + (mSum σ.2.2.2 + (mAl md).2 - mSum σ.2.2.2) ≤ (mAl md).2
      omega
  · intro ty x τ H locs cells slots ls pc hrt hnar hd hQ hy hS hu
    have hal : mAl md = (0, 0) := by
      by_cases h : mAl md = (0, 0)
      · exact h
      · have := (hm6 h).2
        rw [hrt] at this
        cases this
    obtain ⟨u1, u2, u3, u4, u5, u6⟩ := hu
    have u3 : cells + (σ.2.2.2.length + (mAl md).1 - τ.2.2.2.length) ≤ (mAl md).1 := u3
    have u4 : slots + (mSum σ.2.2.2 + (mAl md).2 - mSum τ.2.2.2) ≤ (mAl md).2 := u4
    have u1 : τ.2.2.2.length ≤ σ.2.2.2.length + (mAl md).1 := u1
    have u2 : mSum τ.2.2.2 ≤ mSum σ.2.2.2 + (mAl md).2 := u2
    have u5 : σ.2.2.2.length ≤ τ.2.2.2.length := u5
    have u6 : mSum σ.2.2.2 ≤ mSum τ.2.2.2 := u6
    refine W.widen (k := (mAl md).1) (n := (mAl md).2) (by omega) (by omega) ?_
    exact W.zret F.1 F.2.1 (Bd.returns.trans hrt) hnar (fun t ht hW => ⟨some (.int x), τ, rfl, Or.inr ⟨x, rfl⟩, hQ, by rw [ht]; exact hy, by rw [hal] at u1 ⊢; exact Nat.le_antisymm u1 u5, by rw [hal] at u2 ⊢; exact Nat.le_antisymm u2 u6, hS.F ht⟩) hS.2.2 hd Bd.notSynchronized
  · intro τ H locs cells slots ls pc hrt hd hQ hy hS hu hg
    obtain ⟨u1, u2, u3, u4, u5, u6⟩ := hu
    have u3 : cells + (σ.2.2.2.length + (mAl md).1 - τ.2.2.2.length) ≤ (mAl md).1 := u3
    have u4 : slots + (mSum σ.2.2.2 + (mAl md).2 - mSum τ.2.2.2) ≤ (mAl md).2 := u4
    have u1 : τ.2.2.2.length ≤ σ.2.2.2.length + (mAl md).1 := u1
    have u2 : mSum τ.2.2.2 ≤ mSum σ.2.2.2 + (mAl md).2 := u2
    have u5 : σ.2.2.2.length ≤ τ.2.2.2.length := u5
    have u6 : mSum σ.2.2.2 ≤ mSum τ.2.2.2 := u6
    have hlen : τ.2.2.2.length = σ.2.2.2.length + (mAl md).1 ∧ mSum τ.2.2.2 = mSum σ.2.2.2 + (mAl md).2 := by
      by_cases h : mAl md = (0, 0)
      · rw [h] at u1 u2 ⊢
        exact ⟨Nat.le_antisymm u1 u5, Nat.le_antisymm u2 u6⟩
      · exact hg h
    refine W.widen (k := (mAl md).1) (n := (mAl md).2) (by omega) (by omega) ?_
    exact W.vret F.1 F.2.1 (Bd.returns.trans hrt) (fun t ht hW => ⟨none, τ, rfl, Or.inl rfl, hQ, by rw [ht]; exact hy, hlen.1, hlen.2, hS.F ht⟩) hS.2.2 hd Bd.notSynchronized
theorem mMet (B : mBd) (l : Launch) : ∀ (d md : Nat) (av : List Value) (σ : mS) (Qm : mPost), 0 < md → md < mTl.length → md ≠ 2 → mCall (bX B) (d + 1) md av σ Qm → Met l (mYs md) (mWd md) (mRm d md) (mPc B σ av) (mQc B σ md Qm) (mAl md).1 (mAl md).2 (bA B) := by
  intro d
  induction d with
  | zero =>
    intro md av σ Qm h0 hlt hne hcall
    exact mMet_body (B := B) (l := l) h0 hlt hne hcall (fun md2 av2 σ2 Q2 _ _ _ z => z.elim)
  | succ d ih =>
    intro md av σ Qm h0 hlt hne hcall
    exact mMet_body (B := B) (l := l) h0 hlt hne hcall (fun md2 av2 σ2 Q2 g1 g2 g3 z => ⟨mRm d md2, ih md2 av2 σ2 Q2 g1 g2 g3 z, rfl, rfl, Nat.le_refl _, by show 40 + (40 * d + 200) ≤ 40 * (d + 1) + 200; omega⟩)

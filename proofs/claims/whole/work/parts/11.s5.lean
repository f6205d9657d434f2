/-! EACH OPERATION'S RULE: objects in arrays, copies, what is made -/
theorem mCat {B : mBd} (hm : (bM B).category = 1) : ∀ {r : List Value}, ((r.map (mTr B)).map fun v => v.category).sum ≤ 2 * r.length
  | [] => Nat.le_refl _
  | v :: r => by
    have ih := mCat (B := B) hm (r := r)
    have h1 : (mTr B v).category ≤ 2 := by
      rw [mTr_cat hm]
      cases v <;> simp [Value.category]
    simp only [List.map_cons, List.sum_cons, List.length_cons]
    omega
theorem mW_acName : Cond.native arraycopyName ∈ gT ∧ Cond.static arraycopyName ∈ gT ∧ Cond.initialized "java/lang/System" ∈ gT := ⟨gT_of (i := 499) (by decide +kernel) rfl, gT_of (i := 498) (by decide +kernel) rfl, gT_of (i := 66) (by decide +kernel) rfl⟩
theorem mW_obj : Cond.instanceMethod objectInit ∈ gT ∧ Cond.code objectInit ⟨#[0xb1]⟩ 1 none ∈ gT := ⟨gT_of (i := 77) (by decide +kernel) rfl, gT_of (i := 78) rfl rfl⟩
theorem mSum_app (sh : List (Nat × Nat)) (a n : Nat) : mSum (sh ++ [(a, n)]) = mSum sh + n := by
  unfold mSum
  simp
theorem mDy_new {B : mBd} {σ : mS} {H H1 : Heap} {a n : Nat} (hy : mDy B σ H) (hz : H1.size = H.size + 1) (oq : ∀ x : Nat, x < H.size → H1[x]? = H[x]?) (hok : mShOk a n) (hl : σ.2.2.2.length + 1 ≤ 1000) (hat : va_at (bD B) vwCl (bO B + σ.2.2.2.length, mCellOf B (mNew σ a n) σ.2.2.2.length (a, n)) H1) : mDy B (mNew σ a n) H1 := by
  have hlen : (mNew σ a n).2.2.2.length = σ.2.2.2.length + 1 := by simp [mNew]
  have hold : ∀ k, k < σ.2.2.2.length → ∀ r, mCellOf B (mNew σ a n) k r = mCellOf B σ k r := by
    intro k hk r
    have hne : k ≠ σ.2.2.2.length := by omega
    unfold mCellOf
    have e : ∀ t, mFv B (mNew σ a n) k t = mFv B σ k t := by
      intro t
      funext j
      unfold mFv
      simp only [mNew, hne, if_false]
    simp only [e]
    simp only [mNew, hne, if_false]
  refine ⟨by rw [hz, hy.1, hlen]; omega, fun k x hx => ?_, by rw [hlen]; exact hl, fun c k d h => ?_, fun c t n' h => ?_, fun c n' h i => ?_⟩
  · obtain ⟨h1, rfl⟩ := mWs_at hx
    rw [hlen] at h1
    unfold mCell
    by_cases e : k < σ.2.2.2.length
    · have hg : (mNew σ a n).2.2.2.getD k (99, 0) = σ.2.2.2.getD k (99, 0) := by
        simp only [mNew, List.getD_eq_getElem?_getD]
        rw [List.getElem?_append_left e]
      rw [hg, hold k e]
      have hk : (mWs B σ)[k]? = some (bO B + k, mCellOf B σ k (σ.2.2.2.getD k (99, 0))) := by
        unfold mWs mCell
        rw [List.getElem?_map, List.getElem?_range e]
        rfl
      have hlt := (hy.2.1 k _ hk).lt
      exact (hy.2.1 k _ hk).kept (oq _ hlt)
    · have ek : k = σ.2.2.2.length := by omega
      subst ek
      have hg : (mNew σ a n).2.2.2.getD σ.2.2.2.length (99, 0) = (a, n) := by
        simp [mNew, List.getD_eq_getElem?_getD]
      rw [hg]
      exact hat
  · rw [hlen]
    have h : (if c = σ.2.2.2.length then fun _ => none else σ.2.1 c) k = some d := h
    by_cases e : c = σ.2.2.2.length
    · rw [if_pos e] at h
      cases h
    · rw [if_neg e] at h
      have := hy.2.2.2.1 c k d h
      omega
  · by_cases e : c < σ.2.2.2.length
    · have h : (σ.2.2.2 ++ [(a, n)])[c]? = some (t, n') := h
      rw [List.getElem?_append_left e] at h
      exact hy.2.2.2.2.1 c t n' h
    · have h : (σ.2.2.2 ++ [(a, n)])[c]? = some (t, n') := h
      rw [List.getElem?_append_right (by omega)] at h
      have hz0 : c - σ.2.2.2.length < 1 := (List.getElem?_eq_some_iff.mp h).1
      rw [show c - σ.2.2.2.length = 0 by omega] at h
      cases h
      exact hok
  · show fits .boolean (.int ((if c = σ.2.2.2.length then fun _ => 0 else σ.1 c) i)) = true
    by_cases e : c = σ.2.2.2.length
    · rw [if_pos e]
      rfl
    · rw [if_neg e]
      have h : (σ.2.2.2 ++ [(a, n)])[c]? = some (22, n') := h
      have hlc : c < σ.2.2.2.length := by
        have := (List.getElem?_eq_some_iff.mp h).1
        simp at this
        omega
      rw [List.getElem?_append_left hlc] at h
      exact hy.2.2.2.2.2 c n' h i
theorem mBud_new {cap n0 : Nat × Nat} {R : Room} {σ : mS} {cells slots a n : Nat} (h : mBud cap n0 R σ cells slots) (g : σ.2.2.2.length + 1 ≤ cap.1 ∧ mSum σ.2.2.2 + n ≤ cap.2 ∧ σ.2.2.2.length + 1 ≤ 1000) : mBud cap n0 R (mNew σ a n) (cells + 1) (slots + n) ∧ cells + 1 ≤ R.cells ∧ slots + n ≤ R.slots := by
  obtain ⟨h1, h2, h3, h4, h5, h6⟩ := h
  have hlen : (mNew σ a n).2.2.2.length = σ.2.2.2.length + 1 := by simp [mNew]
  have hsum : mSum (mNew σ a n).2.2.2 = mSum σ.2.2.2 + n := mSum_app _ _ _
  unfold mBud
  rw [hlen, hsum]
  omega
section S5
variable {B : mBd} {cap n0 : Nat × Nat} {p : Program} {l : Launch} {e : Env} {R : Room} {s : State} {m : MethodId} {args : Array Value} {below : List Frame} {meth : Method} {c : Code} {Qk : State → Prop}
variable {md pc a b : Nat} {cal : mCal} {X : mX} {Qm : mPost} {v : Value} {sw : List (Int32 × Nat)} {lv st : List Value} {σ : mS}
theorem mSt_cat (F : mFx B md p s m args meth c) : (bM B).category = 1 := F.2.2.2.2.2.2.2.2.2.2.2.2.2.2.2.2.2.1
theorem s_aast (F : mFx B md p s m args meth c) (hd : decode (mBy md) pc = .ok (.aastore, 1)) (h : o_aast cal X cap Qm (mGo B cap n0 p l e R s m args below meth c (mML md) Qk) (pc + 1) a b v sw lv st σ) : (mGo B cap n0 p l e R s m args below meth c (mML md) Qk) pc lv st σ := by
  obtain ⟨q, i, n, d, n2, r, rfl, hq, hqd, hi, h⟩ := h
  intro H locs cells slots ls hy hS hl hu
  obtain ⟨hK, -⟩ := F.2.2.2.2.2.2
  show W p l e R s m args below meth c H locs cells slots Qk (F0 m pc ls (mTr B (.ref d) :: .int i :: mTr B (.ref q) :: r.map (mTr B)))
  rw [mTr_lt (mCl hy hq), mTr_lt (mCl hy hqd)]
  have hlt : i.toNatClampNeg < n := Nat.not_le.mp fun z => hi (Or.inr z)
  have h0 : ¬ i < 0 := fun z => hi (Or.inl z)
  obtain ⟨r', hr', cellV, g1, g2, g3, -⟩ := hy.2.1 d _ (mObj hqd (by decide))
  have hcls := (hK.1 6 _ rfl).2
  obtain ⟨kA, comp, k1, k2, k3, -⟩ := (hK.2 3 _ rfl).2
  have hcomp : comp = (bD B).1 6 := Option.some.inj (k3.symm.trans hcls.1)
  subst hcomp
  obtain ⟨kC, hkC, -⟩ := hcls.2
  have hw := mWs_get (B := B) hq
  rw [mCo_ref (Or.inl rfl)] at hw
  have hc : H[bO B + q]? = some (vp_cell (bC B 23) (n, .inr (.inr (.inr (.inr (fun i => (σ.2.1 q i).map (bO B + ·))))))) := hy.2.1 q _ hw
  refine W.aast F.1 F.2.1 hc (fun z h => by cases h) (fun h => by cases h) k1 k2 rfl hkC ⟨h0, by show _ < (arrV _ _ _).slots.size; rw [arrV_size]; exact hlt⟩ g1 (fun z h => by rw [g3] at h; cases h) (by rw [g2]; exact hkC) (by rw [g2]; exact va_assign hcls) rfl rfl hd fun H1 e1 z1 o1 => ?_
  refine h H1 _ cells slots ls (mDy_put (τ := (σ.1, mV σ.2.1 q i.toNatClampNeg (some d), σ.2.2)) hy hq rfl z1 o1 ?_ (fun k hk w => mCo_V hk w) (fun c9 k9 d9 h9 => ?_) hy.2.2.2.2.2) (hS.put z1 o1 (Nat.le_add_right _ _)) hl hu
  · rw [mCo_ref (Or.inl rfl)]
    show H1[bO B + q]? = some (vp_cell _ _)
    rw [e1, vp_cell_q, vp_cell_q, arrV_store]
    congr 2
    funext z
    by_cases hz : z = i.toNatClampNeg
    · subst hz
      simp [updV, mV, va_rf]
    · simp [updV, mV, hz]
  · have h9 : mV σ.2.1 q i.toNatClampNeg (some d) c9 k9 = some d9 := h9
    unfold mV at h9
    by_cases e9 : c9 = q ∧ k9 = i.toNatClampNeg
    · rw [if_pos e9] at h9
      cases h9
      exact (List.getElem?_eq_some_iff.mp hqd).1
    · rw [if_neg e9] at h9
      exact hy.2.2.2.1 c9 k9 d9 h9
theorem mNn {z : Int32} (hz : ¬ z < 0) : z.toInt = (z.toNatClampNeg : Int) := by
  have hz0 : (0 : Int) ≤ z.toInt := by
    have := Int32.not_lt.mp hz
    simpa using Int32.le_iff_toInt_le.mp this
  show z.toInt = ((z.toInt.toNat : Nat) : Int)
  omega
theorem s_acopy {i : Nat} (F : mFx B md p s m args meth c) (hR : 1 ≤ R.frames ∧ 100 ≤ R.locals) (hd : decode (mBy md) pc = .ok (.invokestatic i, 3)) (hw : Cond.methodLink (mCn md) i arraycopyName ∈ gT) (h : o_acopy cal X cap Qm (mGo B cap n0 p l e R s m args below meth c (mML md) Qk) (pc + 3) a b v sw lv st σ) : (mGo B cap n0 p l e R s m args below meth c (mML md) Qk) pc lv st σ := by
  obtain ⟨q, d, t, n0', n1, sp, dp, n, r, rfl, hq, hqd, ht, h1, h2, h3, h4, h5, hr4, h⟩ := h
  intro H locs cells slots ls hy hS hl hu
  obtain ⟨hK, -⟩ := F.2.2.2.2.2.2
  show W p l e R s m args below meth c H locs cells slots Qk (F0 m pc ls (.int n :: .int dp :: mTr B (.ref d) :: .int sp :: mTr B (.ref q) :: r.map (mTr B)))
  rw [mTr_lt (mCl hy hq), mTr_lt (mCl hy hqd)]
  have ht3 : t = 20 ∨ t = 21 ∨ t = 22 := by omega
  have hw0 := mWs_get (B := B) hq
  have hw1 := mWs_get (B := B) hqd
  rw [mCo_int ht3] at hw0 hw1
  have hc0 : H[bO B + q]? = some (vp_cell (bC B t) (n0', .inl (σ.1 q))) := hy.2.1 q _ hw0
  have hc1 : H[bO B + d]? = some (vp_cell (bC B t) (n1, .inl (σ.1 d))) := hy.2.1 d _ hw1
  obtain ⟨ty, htys, hprim, hfit⟩ : ∃ ty : FieldType, (mTys B)[t - 20]? = some (bC B t, ty) ∧ refKind ty = false ∧ ∀ j, fits ty (.int (σ.1 q j)) = true := by
    rcases ht with rfl | rfl
    · exact ⟨.int, rfl, rfl, fun j => rfl⟩
    · exact ⟨.boolean, rfl, rfl, fun j => hy.2.2.2.2.2 q n0' hq j⟩
  intro T hT X9
  obtain ⟨-, k0, hk0, cm0, hkk0⟩ := (hK.2 _ _ htys).1 n0' (fun j => .int (σ.1 q j))
  obtain ⟨-, k1, hk1, cm1, hkk1⟩ := (hK.2 _ _ htys).1 n1 (fun j => .int (σ.1 d j))
  have hcat := mCat (mSt_cat F) (r := r)
  obtain ⟨vm', X', step⟩ := X9.arraycopy F.1 F.2.2.2.1 (F.2.2.2.2.1 _ hw) (F.2.2.2.2.1 _ mW_acName.1) (F.2.2.2.2.1 _ mW_acName.2.1) (F.2.2.2.2.1 _ mW_acName.2.2) (src := bO B + q) (dst := bO B + d) (cs := vp_cell (bC B t) (n0', .inl (σ.1 q))) (cd := vp_cell (bC B t) (n1, .inl (σ.1 d))) (srcPos := sp) (destPos := dp) (n := n) (by rw [hT]; exact hc0) (by rw [hT]; exact hc1)
    (fun _ h => by cases h) (fun _ h => by cases h) (fun h => by cases h) (fun h => by cases h) hk0 hk1 hkk0 hkk1 (by simp [hprim]) h1 h2 h3
    (by rw [mNn h1, mNn h3]; show ¬ _ > ((arrV (bC B t) n0' (fun j => .int (σ.1 q j))).slots.size : Int); rw [arrV_size]; omega)
    (by rw [mNn h2, mNn h3]; show ¬ _ > ((arrV (bC B t) n1 (fun j => .int (σ.1 d j))).slots.size : Int); rw [arrV_size]; omega)
    (fun vm₁ _ j hj => by
      have e9 : (vp_cell (bC B t) (n0', .inl (σ.1 q))).slots.getD (sp.toNatClampNeg + j) .null = .int (σ.1 q (sp.toNatClampNeg + j)) := by
        show (arrV (bC B t) n0' (fun j => .int (σ.1 q j))).slots.getD _ _ = _
        rw [Array.getD_eq_getD_getElem?, arrV_read _ _ (by omega)]
        rfl
      refine ⟨?_, ?_⟩
      · rw [e9]
        exact hfit _
      · rw [e9]
        exact trivial)
    (g := F0 m pc ls (.int n :: .int dp :: .ref (bO B + d) :: .int sp :: .ref (bO B + q) :: r.map (mTr B))) rfl (by rw [F.2.2.1]; exact hl.1) (rest := r.map (mTr B)) rfl (by rw [F.2.1]; exact hd) hR.1 (by show 2 * 0 + _ + (7 + 11) ≤ _; omega)
  have e1 : copied (vp_cell (bC B t) (n0', .inl (σ.1 q))) (vp_cell (bC B t) (n1, .inl (σ.1 d))) sp dp n = vp_cell (bC B t) (n1, .inl (va_cpy (σ.1 q) (σ.1 d) sp.toNatClampNeg dp.toNatClampNeg n.toNatClampNeg)) := va_copied (fun z => .int z) (bC B t) (bC B t) (σ.1 q) (σ.1 d) h4
  rw [e1] at X' step
  have hlt : bO B + d < H.size := (Array.getElem?_eq_some_iff.mp hc1).1
  have hheap : ((T.setVm vm').setCell (bO B + d) (vp_cell (bC B t) (n1, .inl (va_cpy (σ.1 q) (σ.1 d) sp.toNatClampNeg dp.toNatClampNeg n.toNatClampNeg)))).heap = H.setIfInBounds (bO B + d) (vp_cell (bC B t) (n1, .inl (va_cpy (σ.1 q) (σ.1 d) sp.toNatClampNeg dp.toNatClampNeg n.toNatClampNeg))) := by rw [← hT]; rfl
  have oq : ∀ z : Nat, z ≠ bO B + d → (H.setIfInBounds (bO B + d) (vp_cell (bC B t) (n1, .inl (va_cpy (σ.1 q) (σ.1 d) sp.toNatClampNeg dp.toNatClampNeg n.toNatClampNeg))))[z]? = H[z]? := fun z hz => by simp [Array.getElem?_setIfInBounds, Ne.symm hz]
  have hcy : ∀ k, k ≠ d → mCpy σ.1 q d sp.toNatClampNeg dp.toNatClampNeg n.toNatClampNeg k = σ.1 k := fun k hk => if_neg hk
  have hcd : mCpy σ.1 q d sp.toNatClampNeg dp.toNatClampNeg n.toNatClampNeg d = va_cpy (σ.1 q) (σ.1 d) sp.toNatClampNeg dp.toNatClampNeg n.toNatClampNeg := if_pos rfl
  obtain ⟨t9, a1, b1⟩ := h _ _ cells slots ls (mDy_put (τ := (mCpy σ.1 q d sp.toNatClampNeg dp.toNatClampNeg n.toNatClampNeg, σ.2)) hy hqd rfl (by simp) oq
      (by
        rw [mCo_int ht3]
        show (H.setIfInBounds (bO B + d) _)[bO B + d]? = some (vp_cell (bC B t) (n1, .inl (mCpy σ.1 q d sp.toNatClampNeg dp.toNatClampNeg n.toNatClampNeg d)))
        rw [hcd]
        simp [Array.getElem?_setIfInBounds, hlt])
      (fun k hk w => by
        unfold mCellOf
        have e9 : ∀ t, mFv B (mCpy σ.1 q d sp.toNatClampNeg dp.toNatClampNeg n.toNatClampNeg, σ.2) k t = mFv B σ k t := by
          intro t
          funext j
          unfold mFv
          simp only [hcy k hk]
        simp only [e9, hcy k hk])
      hy.2.2.2.1
      (fun c9 n9 h9 j => by
        show fits .boolean (.int (mCpy σ.1 q d sp.toNatClampNeg dp.toNatClampNeg n.toNatClampNeg c9 j)) = true
        by_cases hne : c9 = d
        · subst hne
          rw [hcd]
          have hz := h9.symm.trans hqd
          simp only [Option.some.injEq, Prod.mk.injEq] at hz
          rw [← hz.1] at hq
          unfold va_cpy
          split
          · exact hy.2.2.2.2.2 q _ hq _
          · exact hy.2.2.2.2.2 c9 _ h9 _
        · rw [hcy c9 hne]
          exact hy.2.2.2.2.2 c9 n9 h9 j))
    ⟨by simp; exact hS.1, fun z g1 g2 => by
      rw [oq z (fun e9 => g2 (by rw [e9]; exact Nat.le_add_right _ _))]
      exact hS.2.1 z g1 g2, fun z hz => by
      rcases List.mem_append.mp hz with h9 | h9
      · exact hS.2.2 z h9
      · obtain ⟨w, -, hz9⟩ := List.mem_map.mp h9
        rw [← hz9]
        exact Nat.le_add_right _ _⟩ hl hu _ hheap X'
  exact ⟨t9, step t9 a1, b1⟩
theorem s_objI {i : Nat} (F : mFx B md p s m args meth c) (hR : 1 ≤ R.frames ∧ 100 ≤ R.locals) (hd : decode (mBy md) pc = .ok (.invokespecial i, 3)) (hw : Cond.methodLink (mCn md) i objectInit ∈ gT) (h : o_objI cal X cap Qm (mGo B cap n0 p l e R s m args below meth c (mML md) Qk) (pc + 3) a b v sw lv st σ) : (mGo B cap n0 p l e R s m args below meth c (mML md) Qk) pc lv st σ := by
  obtain ⟨q, r, rfl, hr4, hq, h⟩ := h
  intro H locs cells slots ls hy hS hl hu
  have hcat := mCat (mSt_cat F) (r := r)
  refine W.objInit F.1 F.2.1 F.2.2.2.1 (F.2.2.2.2.1 _ hw) (F.2.2.2.2.1 _ mW_obj.1) (F.2.2.2.2.1 _ mW_obj.2) (a := mAd B q) (rest := r.map (mTr B)) rfl (by rw [F.2.2.1]; exact hl.1) (by rw [List.map_cons, mTr_ref hq]) hd hR.1 (by show 2 * 0 + _ + 12 ≤ _; omega) (h H locs cells slots ls hy hS hl hu)
theorem s_new {i ci N : Nat} {C : String} {T : u_T} (F : mFx B md p s m args meth c) (hd : decode (mBy md) pc = .ok (.new i, 3)) (hc : vwCl[ci]? = some (C, T, N)) (hw : Cond.classLink (mCn md) i C ∈ gT) (h : o_new cal X cap Qm (mGo B cap n0 p l e R s m args below meth c (mML md) Qk) (pc + 3) ci N v sw lv st σ) : (mGo B cap n0 p l e R s m args below meth c (mML md) Qk) pc lv st σ := by
  obtain ⟨g, h⟩ := h
  intro H locs cells slots ls hy hS hl hu
  obtain ⟨hK, -⟩ := F.2.2.2.2.2.2
  obtain ⟨hin, hty, hnm, hfin, hinst, hini⟩ := mCls hc
  obtain ⟨hb1, hb2, hb3⟩ := mBud_new (a := ci) (n := N) hu g
  have hKn := hK.1 ci _ hc
  have ht : ci < 12 := (List.getElem?_eq_some_iff.mp hc).1
  refine W.newcK F.1 F.2.1 F.2.2.2.1 (F.2.2.2.2.1 _ hw) (F.2.2.2.2.1 _ hinst) (F.2.2.2.2.1 _ hini) rfl hd hb2 hb3 hKn.2.1 rfl fun H1 kC hkC e1 z1 o1 => ?_
  have hd9 : mDy B (mNew σ ci N) H1 := by
    refine mDy_new hy z1 o1 (Or.inl ⟨_, hc, rfl, ht⟩) g.2.2 ?_
    unfold mCellOf
    rw [if_pos ht]
    refine ⟨_, hc, ?_⟩
    have hb := u_born (mTy ci) F.2.2.2.2.1 hin hKn hkC e1 hty
    rw [hy.1] at hb
    refine hb.to fun k hk => ?_
    rw [mFs hk, (mFin_at hfin hk).2.1]
    unfold mFv mDef
    cases mTy ci k <;> simp [mNew, va_rf]
  have h2 := h H1 locs (cells + 1) (slots + N) ls hd9 ⟨Nat.le_trans hS.1 (by omega), fun z h1 h2 => (o1 z (Nat.lt_of_lt_of_le h1 hS.1)).trans (hS.2.1 z h1 h2), hS.2.2⟩ hl hb1
  rw [List.map_cons, mTr_lt (by omega), ← hy.1] at h2
  exact h2
theorem mNewa {t : Nat} {ty : FieldType} {H H1 : Heap} {cA n : Nat} (F : mFx B md p s m args meth c) (ht : t = 20 ∨ t = 21 ∨ t = 22) (hty : (mTys B)[t - 20]? = some (bC B t, ty)) (hdv : defaultValue ty = .int 0) (hcA : s.vm.findClass ("[" ++ ty.toString) = some cA) (hy : mDy B σ H) (g : σ.2.2.2.length + 1 ≤ 1000) (e1 : H1[H.size]? = some (arrV cA n (fun _ => defaultValue ty))) (z1 : H1.size = H.size + 1) (o1 : ∀ q, q < H.size → H1[q]? = H[q]?) : mDy B (mNew σ t n) H1 := by
  obtain ⟨hK, -⟩ := F.2.2.2.2.2.2
  have hRA := (hK.2 _ _ hty).2
  have e : cA = bC B t := by
    have h9 : s.vm.findClass ("[" ++ ty.toString) = some (bC B t) := by
      rcases ht with rfl | rfl | rfl <;> cases hty <;> exact hRA
    exact Option.some.inj (hcA.symm.trans h9)
  subst e
  refine mDy_new hy z1 o1 (Or.inr (by omega)) g ?_
  rw [mCo_int ht]
  show H1[bO B + σ.2.2.2.length]? = some (vp_cell (bC B t) (n, .inl ((mNew σ t n).1 σ.2.2.2.length)))
  rw [← hy.1, e1, hdv, vp_cell_i]
  simp [mNew]
theorem mW_arr : Cond.arrayClass .byte ∈ gT ∧ Cond.arrayClass .int ∈ gT ∧ Cond.arrayClass .boolean ∈ gT := ⟨gT_of (i := 699) (by decide +kernel) rfl, gT_of (i := 106) (by decide +kernel) rfl, gT_of (i := 142) (by decide +kernel) rfl⟩
theorem s_newa {t : Nat} {at9 : ArrayType} (F : mFx B md p s m args meth c) (hd : decode (mBy md) pc = .ok (.newarray at9, 2)) (ht : (at9 = .byte ∧ t = 20) ∨ (at9 = .int ∧ t = 21) ∨ (at9 = .boolean ∧ t = 22)) (h : o_newa cal X cap Qm (mGo B cap n0 p l e R s m args below meth c (mML md) Qk) (pc + 2) t b v sw lv st σ) : (mGo B cap n0 p l e R s m args below meth c (mML md) Qk) pc lv st σ := by
  obtain ⟨n, r, rfl, hn, hn4, g, h⟩ := h
  intro H locs cells slots ls hy hS hl hu
  obtain ⟨hb1, hb2, hb3⟩ := mBud_new (a := t) (n := n.toNatClampNeg) hu g
  have fin : ∀ (H1 : Heap), mDy B (mNew σ t n.toNatClampNeg) H1 → H1.size = H.size + 1 → (∀ q, q < H.size → H1[q]? = H[q]?) → W p l e R s m args below meth c H1 locs (cells + 1) (slots + n.toNatClampNeg) Qk (F0 m (pc + 2) ls (.ref H.size :: r.map (mTr B))) := by
    intro H1 hd9 z1 o1
    have h2 := h H1 locs (cells + 1) (slots + n.toNatClampNeg) ls hd9 ⟨Nat.le_trans hS.1 (by omega), fun z h1 h2 => (o1 z (Nat.lt_of_lt_of_le h1 hS.1)).trans (hS.2.1 z h1 h2), hS.2.2⟩ hl hb1
    rw [List.map_cons, mTr_lt (by omega), ← hy.1] at h2
    exact h2
  rcases ht with ⟨rfl, rfl⟩ | ⟨rfl, rfl⟩ | ⟨rfl, rfl⟩
  · exact va_newaK (atype := .byte) F.1 F.2.1 (F.2.2.2.2.1 _ mW_arr.1) rfl hd (n := n) (N := n.toNatClampNeg) (rest := r.map (mTr B)) rfl hn rfl (by show _ * 1 ≤ _; omega) hb2 hb3 rfl fun H1 cA e1 z1 o1 hA hN => fin H1 (mNewa F (Or.inl rfl) rfl rfl hN hy g.2.2 e1 z1 o1) z1 o1
  · exact va_newaK (atype := .int) F.1 F.2.1 (F.2.2.2.2.1 _ mW_arr.2.1) rfl hd (n := n) (N := n.toNatClampNeg) (rest := r.map (mTr B)) rfl hn rfl (by show _ * 4 ≤ _; omega) hb2 hb3 rfl fun H1 cA e1 z1 o1 hA hN => fin H1 (mNewa F (Or.inr (Or.inl rfl)) rfl rfl hN hy g.2.2 e1 z1 o1) z1 o1
  · exact va_newaK (atype := .boolean) F.1 F.2.1 (F.2.2.2.2.1 _ mW_arr.2.2) rfl hd (n := n) (N := n.toNatClampNeg) (rest := r.map (mTr B)) rfl hn rfl (by show _ * 1 ≤ _; omega) hb2 hb3 rfl fun H1 cA e1 z1 o1 hA hN => fin H1 (mNewa F (Or.inr (Or.inr rfl)) rfl rfl hN hy g.2.2 e1 z1 o1) z1 o1
theorem s_newq {i : Nat} (F : mFx B md p s m args meth c) (hd : decode (mBy md) pc = .ok (.anewarray i, 3)) (hw : Cond.classLink (mCn md) i "TicketsDrawn$State" ∈ gT) (h : o_newa cal X cap Qm (mGo B cap n0 p l e R s m args below meth c (mML md) Qk) (pc + 3) 23 b v sw lv st σ) : (mGo B cap n0 p l e R s m args below meth c (mML md) Qk) pc lv st σ := by
  obtain ⟨n, r, rfl, hn, hn4, g, h⟩ := h
  intro H locs cells slots ls hy hS hl hu
  obtain ⟨hb1, hb2, hb3⟩ := mBud_new (a := 23) (n := n.toNatClampNeg) hu g
  obtain ⟨hK, -, hAO, -⟩ := F.2.2.2.2.2.2
  refine W.anew F.1 F.2.1 F.2.2.2.1 (F.2.2.2.2.1 _ hw) (va_AO.use hAO) rfl hd (n := n) (rest := r.map (mTr B)) rfl hn (by omega) hb2 hb3 fun cA kA comp f1 f2 f3 f4 => ?_
  obtain ⟨kA', comp', k1, k2, k3, k4⟩ := (hK.2 3 _ rfl).2
  have ec : cA = bC B 23 := Option.some.inj (f1.symm.trans k4)
  subst ec
  have z1 : (H.push ({ cls := bC B 23, slots := Array.replicate n.toNatClampNeg .null, vm := .none } : Cell)).size = H.size + 1 := by simp
  have o1 : ∀ q, q < H.size → (H.push ({ cls := bC B 23, slots := Array.replicate n.toNatClampNeg .null, vm := .none } : Cell))[q]? = H[q]? := fun q hq => by rw [Array.getElem?_push, if_neg (Nat.ne_of_lt hq)]
  have hd9 : mDy B (mNew σ 23 n.toNatClampNeg) (H.push ({ cls := bC B 23, slots := Array.replicate n.toNatClampNeg .null, vm := .none } : Cell)) := by
    refine mDy_new hy z1 o1 (Or.inr (by omega)) g.2.2 ?_
    rw [mCo_ref (Or.inl rfl)]
    show (H.push _)[bO B + σ.2.2.2.length]? = some (vp_cell (bC B 23) _)
    rw [← hy.1, vp_cell_q, arrV_new]
    simp [mNew, va_rf]
  have h2 := h _ locs (cells + 1) (slots + n.toNatClampNeg) ls hd9 ⟨Nat.le_trans hS.1 (by omega), fun z h1 h2 => (o1 z (Nat.lt_of_lt_of_le h1 hS.1)).trans (hS.2.1 z h1 h2), hS.2.2⟩ hl hb1
  rw [List.map_cons, mTr_lt (by omega), ← hy.1] at h2
  exact h2
end S5

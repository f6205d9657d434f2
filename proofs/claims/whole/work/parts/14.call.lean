/-! CALLS: a method of the small machine as a contract, and a call by it -/
def mWd (md : Nat) : List Cond := .code (mYs md) (mBy md) (mML md) (mRt md) :: gT
def mVo (u : Option Value) : Prop := u = none ∨ ∃ x : Int32, u = some (.int x)
def mPc (B : mBd) (σ : mS) (av : List Value) : Array Value → State → Prop := fun v U => v = (av.map (mTr B)).toArray ∧ mSt B U ∧ mDy B σ U.heap
def mQc (B : mBd) (σ : mS) (md : Nat) (Qm : mPost) : Array Value → State → Outcome → State → Prop := fun _ st oc t => ∃ (u : Option Value) (τ : mS), oc = .returned u ∧ mVo u ∧ Qm u τ ∧ mDy B τ t.heap ∧ τ.2.2.2.length = σ.2.2.2.length + (mAl md).1 ∧ mSum τ.2.2.2 = mSum σ.2.2.2 + (mAl md).2 ∧ va_F (bA B) st t
theorem mSt_mv {B : mBd} {s U : State} (hW : s.WarmedH U.vm) (hb : bO B ≤ U.heap.size) (hq : ∀ a : Nat, a < s.heap.size → ¬ bA B a → U.heap[a]? = s.heap[a]?) (h : mSt B s) : mSt B U := by
  obtain ⟨h1, h2, h3, h4, h5, h6, h7, h8, h9, h10, h11, h12, h13, h14, h15⟩ := h
  refine ⟨va_K.moved hW.alike h1, fun w hw => ?_, va_AO.moved hW.alike h3, ?_, hb, (va_X.moved hW.alike h6).kept (hq _ (Nat.lt_of_lt_of_le h7 h5) (Nat.not_le.mpr h7)), h7, (va_Z.moved hW.alike h8).kept hq, (va_T.moved hW.alike h9).kept hq, (va_Z.moved hW.alike h10).kept hq, (va_Z.moved hW.alike h11).kept hq, h12, fun j hj => vk_R.warm hW (h13 j hj), (vk_S.moved hW.alike h14).kept hq, h15⟩
  · have h2 := h2 w hw
    have hm := (List.mem_filter.mp hw).2
    cases w <;> first | exact va_Nw.warmM hW h2 | exact va_Nw.warmF hW h2 | cases hm
  · obtain ⟨kA, g1, g2⟩ := h4
    obtain ⟨k', hk', he⟩ := hW.alike.2.2 _ _ g1
    exact ⟨k', hk', by rw [he]; exact g2⟩
theorem mPc_blind (B : mBd) (σ : mS) (av : List Value) : FrameBlind (mPc B σ av) := by
  intro a U g mk h
  obtain ⟨h1, h2, h3⟩ := h
  exact ⟨h1, mSt_mv (s := U) (U := U.calling g mk a) (State.WarmedH.refl U) h2.2.2.2.2.1 (fun _ _ _ => rfl) h2, h3⟩
theorem gGood {ws : List Cond} (h : ∀ w ∈ ws, w ∈ gT) : GoodIn gT ws := fun w hw => ⟨h w hw, good_of_word (List.mem_filter.mp (h w hw)).2⟩
theorem mWd_in {md : Nat} (h0 : 0 < md) (h : md < mTl.length) : ∀ w ∈ mWd md, w ∈ gT := by
  intro w hw
  rcases List.mem_cons.mp hw with e | e
  · subst e
    exact mT_code h0 h
  · exact e
/-- what a call needs of its method: a contract, and that its room fits -/
def mCok (B : mBd) (l : Launch) (R : Room) (md : Nat) (av : List Value) (σ : mS) (Qm : mPost) : Prop := ∃ rm : Room, Met l (mYs md) (mWd md) rm (mPc B σ av) (mQc B σ md Qm) (mAl md).1 (mAl md).2 (bA B) ∧ rm.cells = (mAl md).1 ∧ rm.slots = (mAl md).2 ∧ rm.frames + 1 ≤ R.frames ∧ 40 + rm.locals ≤ R.locals
section S6
variable {B : mBd} {cap n0 : Nat × Nat} {p : Program} {l : Launch} {e : Env} {R : Room} {s : State} {m : MethodId} {args : Array Value} {below : List Frame} {meth : Method} {c : Code} {Qk : State → Prop}
variable {md pc a b : Nat} {cal : mCal} {X : mX} {Qm : mPost} {v : Value} {sw : List (Int32 × Nat)} {lv st : List Value} {σ : mS}
theorem m_call {H : Heap} {locs : List Loc} {cells slots md2 : Nat} {ls : Array Slot} {st0 rest : List Value} {av : Array Value} {Q2 : mPost} (hr : va_Run p l e R s m args below meth c H locs cells slots (mAl md2).1 (mAl md2).2 (F0 m pc ls st0) rest (mQc B σ md2 Q2 av) (bA B)) (hS : va_S (bA B) s.heap H locs)
    (kk : ∀ (u : Option Value) (τ : mS) (H1 : Heap) (locs1 : List Loc), mVo u → Q2 u τ → mDy B τ H1 → τ.2.2.2.length = σ.2.2.2.length + (mAl md2).1 → mSum τ.2.2.2 = mSum σ.2.2.2 + (mAl md2).2 → va_S (bA B) s.heap H1 locs1 → W p l e R s m args below meth c H1 locs1 (cells + (mAl md2).1) (slots + (mAl md2).2) Qk (F0 m (pc + 3) ls (u.toList ++ rest))) : W p l e R s m args below meth c H locs cells slots Qk (F0 m pc ls st0) := by
  intro T hT X9
  obtain ⟨v9, st₀, t, T', L, h0, X', hL, e1, e2, ⟨u, τ, hv, hvo, hq, hd, hl1, hl2, hz, hk⟩, st9⟩ := hr T hT X9
  cases hv
  rw [h0] at hz hk
  obtain ⟨t2, a1, b1⟩ := kk v9 τ T'.heap (locs ++ L) hvo hq (by rw [e1]; exact hd) hl1 hl2
    ⟨Nat.le_trans hS.1 (by rw [e1]; exact hz), fun q h1 h2 => by rw [e1, hk q (Nat.lt_of_lt_of_le h1 hS.1) h2]; exact hS.2.1 q h1 h2, fun q hq => by
      rcases List.mem_append.mp hq with h | h
      · exact hS.2.2 q h
      · exact hL q h⟩ T' rfl X'
  exact ⟨t2, st9 t2 a1, b1⟩
theorem mVo_tr {u : Option Value} (h : mVo u) (r : List Value) : (u.toList ++ r).map (mTr B) = u.toList ++ r.map (mTr B) := by
  rcases h with rfl | ⟨x, rfl⟩ <;> rfl
theorem mPre {H : Heap} {locs : List Loc} {av : List Value} (F : mFx B md p s m args meth c) (hy : mDy B σ H) (hS : va_S (bA B) s.heap H locs) : ∀ U : State, U.heap = H → s.WarmedH U.vm → mPc B σ av (av.map (mTr B)).toArray U := by
  intro U hU hW
  refine ⟨rfl, mSt_mv hW (by rw [hU, hy.1]; omega) (fun q h1 h2 => by rw [hU]; exact hS.2.1 q h1 h2) F.2.2.2.2.2.2, by rw [hU]; exact hy⟩
theorem mBud_call {R : Room} {τ : mS} {cells slots mc ms : Nat} (h : mBud cap n0 R σ cells slots) (g : σ.2.2.2.length + mc ≤ cap.1 ∧ mSum σ.2.2.2 + ms ≤ cap.2) (h1 : τ.2.2.2.length = σ.2.2.2.length + mc) (h2 : mSum τ.2.2.2 = mSum σ.2.2.2 + ms) : mBud cap n0 R τ (cells + mc) (slots + ms) ∧ cells + mc ≤ R.cells ∧ slots + ms ≤ R.slots := by
  obtain ⟨g1, g2, g3, g4, g5, g6⟩ := h
  unfold mBud
  rw [h1, h2]
  omega
theorem mBud_fit {R : Room} {cells slots mc ms : Nat} (h : mBud cap n0 R σ cells slots) (g : σ.2.2.2.length + mc ≤ cap.1 ∧ mSum σ.2.2.2 + ms ≤ cap.2) : cells + mc ≤ R.cells ∧ slots + ms ≤ R.slots := by
  obtain ⟨g1, g2, g3, g4, g5, g6⟩ := h
  omega
theorem mStk {st p r : List Value} {b : Nat} (h1 : st.take b = p) (h2 : st.drop b = r) : st = p ++ r := by
  rw [← h1, ← h2, List.take_append_drop]
theorem s_callV {i md2 k : Nat} (F : mFx B md p s m args meth c) (hd : decode (mBy md) pc = .ok (.invokevirtual i, 3)) (h0 : 0 < md2) (hlt : md2 < mTl.length) (hne : md2 ≠ 2) (hw1 : Cond.methodLink (mCn md) i (mYs md2) ∈ gT) (hw2 : Cond.instanceMethod (mYs md2) ∈ gT) (hw3 : Cond.selects (mYs md2).cls (mYs md2) (mYs md2) ∈ gT) (hw4 : Cond.initialized (mYs md2).cls ∈ gT) (hdesc : (parseMethodDescriptor (mYs md2).desc).map (fun d => d.parameters.length) = some b) (hk : (vwCl[k]?).map (fun w => w.1) = some (mYs md2).cls) (hal : mAl md2 = (0, 0))
    (hC : ∀ av Q2, cal md2 av σ Q2 → mCok B l R md2 av σ Q2) (h : o_callV cal X cap Qm (mGo B cap n0 p l e R s m args below meth c (mML md) Qk) (pc + 3) md2 b (.ref k) sw lv st σ) : (mGo B cap n0 p l e R s m args below meth c (mML md) Qk) pc lv st σ := by
  obtain ⟨q, k9, n, ps, r, hst1, hst2, hk9, hq, hr4, h⟩ := h
  cases hk9
  have hst := mStk hst1 hst2
  intro H locs cells slots ls hy hS hl hu
  obtain ⟨rm, hM, hrc, hrs, hrf, hrl⟩ := hC _ _ h
  obtain ⟨hm1, hm2, hm3, hm4, hm5, -⟩ := mMth_ok hlt
  obtain ⟨hK, -⟩ := F.2.2.2.2.2.2
  have hlen : ps.length = b := by
    rw [← hst1, List.length_take]
    have : 0 < (st.drop b).length := by rw [hst2]; simp
    rw [List.length_drop] at this
    omega
  cases hc : vwCl[k]? with
  | none => rw [hc] at hk; cases hk
  | some w =>
    obtain ⟨C, T, N⟩ := w
    rw [hc] at hk
    have hk : C = (mYs md2).cls := Option.some.inj hk
    obtain ⟨hn9, ht⟩ := mObjN hy hq hc
    have hb := mBud_fit (mc := (mAl md2).1) (ms := (mAl md2).2) hu (by rw [hal]; exact ⟨hu.1, hu.2.1⟩)
    have hstk : st.map (mTr B) = ((ps.reverse).map (mTr B)).reverse ++ .ref (bO B + q) :: r.map (mTr B) := by
      rw [hst, List.map_append, List.map_cons, mTr_lt (mCl hy hq), List.map_reverse, List.reverse_reverse]
    have hav : (Value.ref (bO B + q) :: (ps.reverse).map (mTr B)) = (Value.ref q :: ps.reverse).map (mTr B) := by
      rw [List.map_cons, mTr_lt (mCl hy hq)]
    have hcat := mCat (mSt_cat F) (r := r)
    refine m_call (md2 := md2) (va_runV (As := (ps.reverse).map (mTr B)) (rest := r.map (mTr B)) (C := C) (b := bO B + q) (ws := mWd md2) (rm := rm) (bytes := mBy md2) (maxL := mML md2) (ret := mRt md2) (n := b) (Ts := gT) ⟨F.1, F.2.1, F.2.2.1, F.2.2.2.1, F.2.2.2.2.1⟩ hM ⟨callB_of b F.2.2.2.2.1 (gGood (mWd_in h0 hlt)) rfl hrc hrs (F.2.2.2.2.1 _ hw4) (F.2.2.2.2.1 _ hw1) ⟨hm4, hm5, hdesc⟩ ⟨hrf, by omega⟩, F.2.2.2.2.1 _ hw2, by rw [hk]; exact F.2.2.2.2.1 _ hw3⟩ ⟨mPc_blind _ _ _, va_recv hK hy.2.1 (ci := k) (q0 := q) hc (mObj hq ht), by rw [hav]; exact mPre F hy hS⟩ rfl (by simp [hlen]) hl.1 hstk (lv_room (by omega)) hd hb) hS (fun u τ H1 locs1 hvo hq2 hd2 hl1 hl2 hS2 => ?_)
    have hz := mBud_call (mc := (mAl md2).1) (ms := (mAl md2).2) (τ := τ) hu (by rw [hal]; exact ⟨hu.1, hu.2.1⟩) hl1 hl2
    have h9 := hq2 H1 locs1 _ _ ls hd2 hS2 hl hz.1
    rw [mVo_tr hvo] at h9
    exact h9
theorem s_callT {i md2 : Nat} (F : mFx B md p s m args meth c) (hd : decode (mBy md) pc = .ok (.invokevirtual i, 3)) (h0 : 0 < md2) (hlt : md2 < mTl.length) (hne : md2 ≠ 2) (hw1 : Cond.methodLink (mCn md) i (mYs md2) ∈ gT) (hw2 : Cond.instanceMethod (mYs md2) ∈ gT) (hw3 : Cond.selects (mYs md2).cls (mYs md2) (mYs md2) ∈ gT) (hw4 : Cond.initialized (mYs md2).cls ∈ gT) (hdesc : (parseMethodDescriptor (mYs md2).desc).map (fun d => d.parameters.length) = some b) (hk : (mYs md2).cls = "java/lang/String") (hal : mAl md2 = (0, 0))
    (hC : ∀ av Q2, cal md2 av σ Q2 → mCok B l R md2 av σ Q2) (h : o_callT cal X cap Qm (mGo B cap n0 p l e R s m args below meth c (mML md) Qk) (pc + 3) md2 b v sw lv st σ) : (mGo B cap n0 p l e R s m args below meth c (mML md) Qk) pc lv st σ := by
  obtain ⟨j, ps, r, hst1, hst2, hj, hr4, h⟩ := h
  have hst := mStk hst1 hst2
  intro H locs cells slots ls hy hS hl hu
  obtain ⟨rm, hM, hrc, hrs, hrf, hrl⟩ := hC _ _ h
  obtain ⟨hm1, hm2, hm3, hm4, hm5, -⟩ := mMth_ok hlt
  obtain ⟨-, -, -, -, -, -, -, -, -, -, -, -, -, hE, -⟩ := F.2.2.2.2.2.2
  have hlen : ps.length = b := by
    rw [← hst1, List.length_take]
    have : 0 < (st.drop b).length := by rw [hst2]; simp
    rw [List.length_drop] at this
    omega
  have hb := mBud_fit (mc := (mAl md2).1) (ms := (mAl md2).2) hu (by rw [hal]; exact ⟨hu.1, hu.2.1⟩)
  have hr9 : mTr B (.ref (1100 + j)) = .ref (bK B j) := by rw [mTr_ref (by omega), mAd_str hj]
  have hstk : st.map (mTr B) = ((ps.reverse).map (mTr B)).reverse ++ .ref (bK B j) :: r.map (mTr B) := by
    rw [hst, List.map_append, List.map_cons, hr9, List.map_reverse, List.reverse_reverse]
  have hav : (Value.ref (bK B j) :: (ps.reverse).map (mTr B)) = (Value.ref (1100 + j) :: ps.reverse).map (mTr B) := by
    rw [List.map_cons, hr9]
  have hcat := mCat (mSt_cat F) (r := r)
  refine m_call (md2 := md2) (va_runV (As := (ps.reverse).map (mTr B)) (rest := r.map (mTr B)) (C := "java/lang/String") (b := bK B j) (ws := mWd md2) (rm := rm) (bytes := mBy md2) (maxL := mML md2) (ret := mRt md2) (n := b) (Ts := gT) ⟨F.1, F.2.1, F.2.2.1, F.2.2.2.1, F.2.2.2.2.1⟩ hM ⟨callB_of b F.2.2.2.2.1 (gGood (mWd_in h0 hlt)) rfl hrc hrs (F.2.2.2.2.1 _ hw4) (F.2.2.2.2.1 _ hw1) ⟨hm4, hm5, hdesc⟩ ⟨hrf, by omega⟩, F.2.2.2.2.1 _ hw2, by rw [← hk]; exact F.2.2.2.2.1 _ hw3⟩ ⟨mPc_blind _ _ _, vk_recv hE hj hS, by rw [hav]; exact mPre F hy hS⟩ rfl (by simp [hlen]) hl.1 hstk (lv_room (by omega)) hd hb) hS (fun u τ H1 locs1 hvo hq2 hd2 hl1 hl2 hS2 => ?_)
  have hz := mBud_call (mc := (mAl md2).1) (ms := (mAl md2).2) (τ := τ) hu (by rw [hal]; exact ⟨hu.1, hu.2.1⟩) hl1 hl2
  have h9 := hq2 H1 locs1 _ _ ls hd2 hS2 hl hz.1
  rw [mVo_tr hvo] at h9
  exact h9
theorem s_callS {i md2 : Nat} (F : mFx B md p s m args meth c) (hd : decode (mBy md) pc = .ok (.invokestatic i, 3)) (h0 : 0 < md2) (hlt : md2 < mTl.length) (hne : md2 ≠ 2) (hw1 : Cond.methodLink (mCn md) i (mYs md2) ∈ gT) (hw2 : Cond.static (mYs md2) ∈ gT) (hw4 : Cond.initialized (mYs md2).cls ∈ gT) (hdesc : (parseMethodDescriptor (mYs md2).desc).map (fun d => d.parameters.length) = some b) (hal : mAl md2 = (0, 0))
    (hC : ∀ av Q2, cal md2 av σ Q2 → mCok B l R md2 av σ Q2) (h : o_callS cal X cap Qm (mGo B cap n0 p l e R s m args below meth c (mML md) Qk) (pc + 3) md2 b v sw lv st σ) : (mGo B cap n0 p l e R s m args below meth c (mML md) Qk) pc lv st σ := by
  obtain ⟨ps, r, hbl, hst1, hst2, hr4, h⟩ := h
  have hst := mStk hst1 hst2
  intro H locs cells slots ls hy hS hl hu
  obtain ⟨rm, hM, hrc, hrs, hrf, hrl⟩ := hC _ _ h
  obtain ⟨hm1, hm2, hm3, hm4, hm5, -⟩ := mMth_ok hlt
  have hlen : ps.length = b := by
    rw [← hst1, List.length_take]
    omega
  have hb := mBud_fit (mc := (mAl md2).1) (ms := (mAl md2).2) hu (by rw [hal]; exact ⟨hu.1, hu.2.1⟩)
  have hstk : st.map (mTr B) = ((ps.reverse).map (mTr B)).reverse ++ r.map (mTr B) := by
    rw [hst, List.map_append, List.map_reverse, List.reverse_reverse]
  have hcat := mCat (mSt_cat F) (r := r)
  refine m_call (md2 := md2) (va_runS (As := (ps.reverse).map (mTr B)) (rest := r.map (mTr B)) (ws := mWd md2) (rm := rm) (bytes := mBy md2) (maxL := mML md2) (ret := mRt md2) (n := b) (Ts := gT) ⟨F.1, F.2.1, F.2.2.1, F.2.2.2.1, F.2.2.2.2.1⟩ hM ⟨callB_of b F.2.2.2.2.1 (gGood (mWd_in h0 hlt)) rfl hrc hrs (F.2.2.2.2.1 _ hw4) (F.2.2.2.2.1 _ hw1) ⟨hm4, hm5, hdesc⟩ ⟨hrf, by omega⟩, F.2.2.2.2.1 _ hw2⟩ ⟨mPc_blind _ _ _, mPre F hy hS⟩ rfl (by simp [hlen]) hl.1 hstk (lv_room (by omega)) hd hb) hS (fun u τ H1 locs1 hvo hq2 hd2 hl1 hl2 hS2 => ?_)
  have hz := mBud_call (mc := (mAl md2).1) (ms := (mAl md2).2) (τ := τ) hu (by rw [hal]; exact ⟨hu.1, hu.2.1⟩) hl1 hl2
  have h9 := hq2 H1 locs1 _ _ ls hd2 hS2 hl hz.1
  rw [mVo_tr hvo] at h9
  exact h9
theorem s_callI {i md2 : Nat} (F : mFx B md p s m args meth c) (hd : decode (mBy md) pc = .ok (.invokespecial i, 3)) (h0 : 0 < md2) (hlt : md2 < mTl.length) (hne : md2 ≠ 2) (hw1 : Cond.methodLink (mCn md) i (mYs md2) ∈ gT ∨ Cond.methodLinkNest (mCn md) i (mYs md2) "TicketsDrawn" ∈ mNest) (hw2 : Cond.instanceMethod (mYs md2) ∈ gT) (hw4 : Cond.initialized (mYs md2).cls ∈ gT) (hdesc : (parseMethodDescriptor (mYs md2).desc).map (fun d => d.parameters.length) = some b) (hnm : (mYs md2).name = "<init>") (hrt : mRt md2 = none)
    (hC : ∀ av Q2, cal md2 av σ Q2 → mCok B l R md2 av σ Q2) (h : o_callI cal X cap Qm (mGo B cap n0 p l e R s m args below meth c (mML md) Qk) (pc + 3) md2 b v sw lv st σ) : (mGo B cap n0 p l e R s m args below meth c (mML md) Qk) pc lv st σ := by
  obtain ⟨q, ps, r, hst1, hst2, hq13, hr4, hg, h⟩ := h
  have hst := mStk hst1 hst2
  intro H locs cells slots ls hy hS hl hu
  obtain ⟨rm, hM, hrc, hrs, hrf, hrl⟩ := hC _ _ h
  obtain ⟨hm1, hm2, hm3, hm4, hm5, -⟩ := mMth_ok hlt
  obtain ⟨-, hN, -⟩ := F.2.2.2.2.2.2
  have hlen : ps.length = b := by
    rw [← hst1, List.length_take]
    have : 0 < (st.drop b).length := by rw [hst2]; simp
    rw [List.length_drop] at this
    omega
  have hb := mBud_fit (mc := (mAl md2).1) (ms := (mAl md2).2) hu hg
  have hcat := mCat (mSt_cat F) (r := r)
  have hstk : st.map (mTr B) = ((ps.reverse).map (mTr B)).reverse ++ .ref (mAd B q) :: r.map (mTr B) := by
    rw [hst, List.map_append, List.map_cons, mTr_ref hq13, List.map_reverse, List.reverse_reverse]
  have hav : (Value.ref (mAd B q) :: (ps.reverse).map (mTr B)) = (Value.ref q :: ps.reverse).map (mTr B) := by
    rw [List.map_cons, mTr_ref hq13]
  have fin : ∀ (u : Option Value) (τ : mS) (H1 : Heap) (locs1 : List Loc), mVo u → (mGo B cap n0 p l e R s m args below meth c (mML md) Qk) (pc + 3) lv (u.toList ++ r) τ → mDy B τ H1 → τ.2.2.2.length = σ.2.2.2.length + (mAl md2).1 → mSum τ.2.2.2 = mSum σ.2.2.2 + (mAl md2).2 → va_S (bA B) s.heap H1 locs1 → W p l e R s m args below meth c H1 locs1 (cells + (mAl md2).1) (slots + (mAl md2).2) Qk (F0 m (pc + 3) ls (u.toList ++ r.map (mTr B))) := by
    intro u τ H1 locs1 hvo hq2 hd2 hl1 hl2 hS2
    have hz := mBud_call (mc := (mAl md2).1) (ms := (mAl md2).2) (τ := τ) hu hg hl1 hl2
    have h9 := hq2 H1 locs1 _ _ ls hd2 hS2 hl hz.1
    rw [mVo_tr hvo] at h9
    exact h9
  rcases hw1 with hw1 | hw1
  · refine m_call (md2 := md2) (va_runI (As := (ps.reverse).map (mTr B)) (rest := r.map (mTr B)) (b := mAd B q) (ws := mWd md2) (rm := rm) (bytes := mBy md2) (maxL := mML md2) (n := b) (Ts := gT) ⟨F.1, F.2.1, F.2.2.1, F.2.2.2.1, F.2.2.2.2.1⟩ hM ⟨callB_of b F.2.2.2.2.1 (gGood (mWd_in h0 hlt)) (by unfold mWd; rw [hrt]) hrc hrs (F.2.2.2.2.1 _ hw4) (F.2.2.2.2.1 _ hw1) ⟨hm4, hm5, hdesc⟩ ⟨hrf, by omega⟩, hnm, F.2.2.2.2.1 _ hw2⟩ ⟨mPc_blind _ _ _, by rw [hav]; exact mPre F hy hS⟩ rfl (by simp [hlen]) hl.1 hstk (lv_room (by omega)) hd hb) hS fin
  · refine m_call (md2 := md2) (va_runIN (As := (ps.reverse).map (mTr B)) (rest := r.map (mTr B)) (b := mAd B q) (ws := mWd md2) (rm := rm) (bytes := mBy md2) (maxL := mML md2) (n := b) (Ts := gT) (host := "TicketsDrawn") ⟨F.1, F.2.1, F.2.2.1, F.2.2.2.1, F.2.2.2.2.1⟩ hM ⟨va_cnB b F.2.2.2.2.1 (gGood (mWd_in h0 hlt)) (by unfold mWd; rw [hrt]) hrc hrs (hN _ hw1) (F.2.2.2.2.1 _ hw4) ⟨hm4, hm5, hdesc⟩ ⟨hrf, by omega⟩, hnm, F.2.2.2.2.1 _ hw2⟩ ⟨mPc_blind _ _ _, by rw [hav]; exact mPre F hy hS⟩ rfl (by simp [hlen]) hl.1 hstk (lv_room (by omega)) hd hb) hS fin
end S6

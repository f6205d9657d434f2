/-! EACH OPERATION'S RULE: fields written, objects in arrays, copies -/
theorem mFin_at {ci N : Nat} {T : u_T} (h : mFin ci N T = true) {k : Nat} (hk : k < N) : (T k).2.2.2 = (mFop false .null (mTy ci k) == 46) ∧ defaultValue (mTy ci k) = mDef (mTy ci k) ∧ (T k).1 = mCnl.getD ci "" := by
  have h1 := List.all_eq_true.mp h k (List.mem_range.mpr hk)
  simp only [Bool.and_eq_true, beq_iff_eq, decide_eq_true_eq] at h1
  exact ⟨h1.1.1, h1.1.2, h1.2⟩
theorem mFs {B : mBd} {σ : mS} {q t n j : Nat} (hj : j < n) : vp_V ((List.range n).map (mFv B σ q t)) j = mFv B σ q t j := by
  unfold vp_V
  rw [List.getD_eq_getElem?_getD, mFld hj]
  rfl
section S4
variable {B : mBd} {cap n0 : Nat × Nat} {p : Program} {l : Launch} {e : Env} {R : Room} {s : State} {m : MethodId} {args : Array Value} {below : List Frame} {meth : Method} {c : Code} {Qk : State → Prop}
variable {md pc a b : Nat} {cal : mCal} {X : mX} {Qm : mPost} {v : Value} {sw : List (Int32 × Nat)} {lv st : List Value} {σ : mS}
theorem s_putA {i k ci n q : Nat} {C : String} {T : u_T} {N : Nat} {u : Value} {r : List Value} {τ : mS} (F : mFx B md p s m args meth c) (hd : decode (mBy md) pc = .ok (.putfield i, 3)) (hc : vwCl[ci]? = some (C, T, N)) (hk : k < N) (hw : Cond.fieldLink (mCn md) i (T k).1 (T k).2.1 (T k).2.2.1 ∈ gT) (hfin : (T k).2.2.2 = false ∨ ((T k).2.2.2 = true ∧ meth.name = "<init>" ∧ (T k).1 = mCn md)) (hq : σ.2.2.2[q]? = some (ci, n)) (hn : narrow (mTy ci k) u = u) (hfit : fits (mTy ci k) u = true) (hs : τ.2.2.2 = σ.2.2.2) (hf : ∀ j, j < N → mFv B τ q ci j = if j = k then u else mFv B σ q ci j) (ho : ∀ j, j ≠ q → ∀ w, mCellOf B τ j w = mCellOf B σ j w) {H : Heap} {locs : List Loc} {cells slots : Nat} {ls : Array Slot} (hy : mDy B σ H) (hr : ∀ c k d : Nat, τ.2.1 c k = some d → d < σ.2.2.2.length) (hb : ∀ c n : Nat, σ.2.2.2[c]? = some (22, n) → ∀ i, fits .boolean (.int (τ.1 c i)) = true) (hS : va_S (bA B) s.heap H locs) (hl : mLv B ls (mML md) lv) (hu : mBud cap n0 R σ cells slots) (h : (mGo B cap n0 p l e R s m args below meth c (mML md) Qk) (pc + 3) lv r τ) : W p l e R s m args below meth c H locs cells slots Qk (F0 m pc ls (u :: .ref (bO B + q) :: r.map (mTr B))) := by
  obtain ⟨hK, -⟩ := F.2.2.2.2.2.2
  obtain ⟨hn9, ht⟩ := mObjN hy hq hc
  subst hn9
  obtain ⟨hin, hty, hnm, -⟩ := mCls hc
  have hts := F.2.2.2.2.1
  have hown := F.2.2.2.1
  have hap := va_apart (own := mCn md) hts hin (mTy ci) hty hnm hK hc
  obtain ⟨r9, h1, cell, q1, q2, q3, q4⟩ := hy.2.1 q _ (mObj hq ht)
  have hr9 : r9 = (C, T, n) := Option.some.inj (h1.symm.trans hc)
  subst hr9
  obtain ⟨hSl, hfc, kC, hkC, hkind⟩ := hK.1 ci _ hc
  obtain ⟨cf, kf, fi, f, hi, hsl⟩ := hSl k hk
  have hlay := hts _ (hin _ (u_in_lay hk))
  unfold u_lay at hlay
  have hst := (u_facts hfc hkC (u_lays hts hin hk) hi).1
  have fin : ∀ H1 : Heap, H1[bO B + q]? = some (cell.setSlot f.slot u) → H1.size = H.size → (∀ x, x ≠ bO B + q → H1[x]? = H[x]?) → W p l e R s m args below meth c H1 (locs ++ [⟨bO B + q, f.slot⟩]) cells slots Qk (F0 m (pc + 3) ls (r.map (mTr B))) := by
    intro H1 e1 e2 e3
    rw [hsl] at e1 ⊢
    refine h H1 _ cells slots ls (mDy_put hy hq hs e2 e3 ?_ ho hr hb) (hS.put e2 e3 (Nat.le_add_right _ _)) hl (by unfold mBud; rw [hs]; exact hu)
    unfold mCellOf
    rw [if_pos ht]
    refine ⟨_, hc, t_OB.to (V := updV (vp_V ((List.range n).map (mFv B σ q ci))) k u) ⟨_, e1, q2, q3, t_set q4 hap hk u⟩ (fun j hj => ?_)⟩
    rw [mFs hj, hf j hj]
    unfold updV
    rw [mFs hj]
  rcases hfin with hfin | ⟨hfin, hin2, hdecl⟩
  · rw [if_neg (by rw [hfin]; decide)] at hlay
    have h6 := u_store hfc hkC hkind hlay hi (hty k hk) hn hfit
    exact W.putK F.1 F.2.1 (f := f) ⟨hown, hts _ hw, ⟨_, _, _, hi⟩, hst⟩ (by rw [q2]; exact h6) q1 q3 (by rw [hsl]; exact k2_hasslot (q4 k hk)) rfl rfl hd fin
  · rw [if_pos hfin] at hlay
    have hcf : m.cls = cf := by
      obtain ⟨_, _, c', _, _, _, -, -, hf', -, -, -, hown2, -⟩ := Cond.laysFinal_spec hlay
      have e1 : c' = cf := by have := hi.symm.trans hf'; simp at this; exact this.1.symm
      rw [hdecl] at hown2
      rw [← e1]
      exact Option.some.inj (hown.symm.trans hown2)
    have h6 := u_fits hfc hkC hkind (Or.inr hlay) hi (hty k hk) hn hfit
    exact W.putFinK F.1 F.2.1 hown (hts _ hw) hi hst hcf hin2 (by rw [q2]; exact h6) q1 q3 (by rw [hsl]; exact k2_hasslot (q4 k hk)) rfl rfl hd fin
theorem mFvU {B : mBd} {σ : mS} {q k t : Nat} {x : Int32} (h : mTy t k = .int ∨ mTy t k = .boolean) (j : Nat) : mFv B (mU σ.1 q k x, σ.2) q t j = if j = k then .int x else mFv B σ q t j := by
  unfold mFv
  by_cases e : j = k
  · subst e
    rw [if_pos rfl]
    simp only [mU_eq]
    rcases h with h | h <;> rw [h] <;> simp [upd]
  · rw [if_neg e]
    simp only [mU_eq]
    have : upd (σ.1 q) k x j = σ.1 q j := by simp [upd, e]
    rw [this]
theorem s_putI {i k ci : Nat} {C : String} {T : u_T} {N : Nat} (F : mFx B md p s m args meth c) (hd : decode (mBy md) pc = .ok (.putfield i, 3)) (hc : vwCl[ci]? = some (C, T, N)) (hk : k < N) (hw : Cond.fieldLink (mCn md) i (T k).1 (T k).2.1 (T k).2.2.1 ∈ gT) (hty : mTy ci k = .int) (h : o_putI cal X cap Qm (mGo B cap n0 p l e R s m args below meth c (mML md) Qk) (pc + 3) ci k v sw lv st σ) : (mGo B cap n0 p l e R s m args below meth c (mML md) Qk) pc lv st σ := by
  obtain ⟨q, n, x, r, rfl, hq, h⟩ := h
  intro H locs cells slots ls hy hS hl hu
  show W p l e R s m args below meth c H locs cells slots Qk (F0 m pc ls (.int x :: mTr B (.ref q) :: r.map (mTr B)))
  rw [mTr_lt (mCl hy hq)]
  have hf := (mFin_at (mCls hc).2.2.2.1 hk).1
  rw [hty] at hf
  refine s_putA F hd hc hk hw (Or.inl hf) hq (by rw [hty]; rfl) (by rw [hty]; rfl) (τ := (mU σ.1 q k x, σ.2)) rfl (fun j _ => mFvU (Or.inl hty) j) (fun j hj w => mCo_U hj w) hy hy.2.2.2.1 (fun c9 n9 h9 j => ?_) hS hl hu h
  have hne : c9 ≠ q := fun z => by
    subst z
    have z := h9.symm.trans hq
    simp only [Option.some.injEq, Prod.mk.injEq] at z
    have := (mObjN hy hq hc).2
    omega
  show fits .boolean (.int (mU σ.1 q k x c9 j)) = true
  rw [mU_ne hne]
  exact hy.2.2.2.2.2 c9 n9 h9 j
theorem s_putZ {i k ci : Nat} {C : String} {T : u_T} {N : Nat} (F : mFx B md p s m args meth c) (hd : decode (mBy md) pc = .ok (.putfield i, 3)) (hc : vwCl[ci]? = some (C, T, N)) (hk : k < N) (hw : Cond.fieldLink (mCn md) i (T k).1 (T k).2.1 (T k).2.2.1 ∈ gT) (hty : mTy ci k = .boolean) (h : o_putZ cal X cap Qm (mGo B cap n0 p l e R s m args below meth c (mML md) Qk) (pc + 3) ci k v sw lv st σ) : (mGo B cap n0 p l e R s m args below meth c (mML md) Qk) pc lv st σ := by
  obtain ⟨q, n, x, r, rfl, hq, hx, h⟩ := h
  intro H locs cells slots ls hy hS hl hu
  show W p l e R s m args below meth c H locs cells slots Qk (F0 m pc ls (.int x :: mTr B (.ref q) :: r.map (mTr B)))
  rw [mTr_lt (mCl hy hq)]
  have hf := (mFin_at (mCls hc).2.2.2.1 hk).1
  rw [hty] at hf
  have hx1 : narrow (mTy ci k) (.int x) = .int x := by
    rw [hty]
    rcases hx with rfl | rfl <;> decide
  have hx2 : fits (mTy ci k) (.int x) = true := by
    rw [hty]
    rcases hx with rfl | rfl <;> decide
  refine s_putA F hd hc hk hw (Or.inl hf) hq hx1 hx2 (τ := (mU σ.1 q k x, σ.2)) rfl (fun j _ => mFvU (Or.inr hty) j) (fun j hj w => mCo_U hj w) hy hy.2.2.2.1 (fun c9 n9 h9 j => ?_) hS hl hu h
  have hne : c9 ≠ q := fun z => by
    subst z
    have z := h9.symm.trans hq
    simp only [Option.some.injEq, Prod.mk.injEq] at z
    have := (mObjN hy hq hc).2
    omega
  show fits .boolean (.int (mU σ.1 q k x c9 j)) = true
  rw [mU_ne hne]
  exact hy.2.2.2.2.2 c9 n9 h9 j
theorem s_putL {i k ci : Nat} {C : String} {T : u_T} {N : Nat} (F : mFx B md p s m args meth c) (hd : decode (mBy md) pc = .ok (.putfield i, 3)) (hc : vwCl[ci]? = some (C, T, N)) (hk : k < N) (hw : Cond.fieldLink (mCn md) i (T k).1 (T k).2.1 (T k).2.2.1 ∈ gT) (hty : mTy ci k = .long) (h : o_putL cal X cap Qm (mGo B cap n0 p l e R s m args below meth c (mML md) Qk) (pc + 3) ci k v sw lv st σ) : (mGo B cap n0 p l e R s m args below meth c (mML md) Qk) pc lv st σ := by
  obtain ⟨q, n, x, r, rfl, hq, h⟩ := h
  intro H locs cells slots ls hy hS hl hu
  show W p l e R s m args below meth c H locs cells slots Qk (F0 m pc ls (.long x :: mTr B (.ref q) :: r.map (mTr B)))
  rw [mTr_lt (mCl hy hq)]
  have hf := (mFin_at (mCls hc).2.2.2.1 hk).1
  rw [hty] at hf
  refine s_putA F hd hc hk hw (Or.inl hf) hq (by rw [hty]; rfl) (by rw [hty]; rfl) (τ := (σ.1, σ.2.1, mV σ.2.2.1 q k x, σ.2.2.2)) rfl (fun j _ => ?_) (fun j hj w => ?_) hy hy.2.2.2.1 hy.2.2.2.2.2 hS hl hu h
  · unfold mFv
    by_cases e9 : j = k
    · subst e9
      rw [if_pos rfl, hty]
      simp [mV]
    · rw [if_neg e9]
      simp only [mV, e9, and_false, if_false]
  · unfold mCellOf
    have e9 : ∀ t, mFv B (σ.1, σ.2.1, mV σ.2.2.1 q k x, σ.2.2.2) j t = mFv B σ j t := by
      intro t
      funext z
      unfold mFv
      simp only [mV, hj, false_and, if_false]
    simp only [e9]
theorem mTyR {t k : Nat} (h : mFop false .null (mTy t k) = 46) (B : mBd) (σ : mS) (c : Nat) : mFv B σ c t k = va_rf ((σ.2.1 c k).map (bO B + ·)) := by
  unfold mFv
  unfold mFop at h
  cases ht : mTy t k <;> simp_all
theorem mVR {B : mBd} {σ : mS} {q k d t : Nat} (h : mFop false .null (mTy t k) = 46) (j : Nat) : mFv B (σ.1, mV σ.2.1 q k (some d), σ.2.2) q t j = if j = k then .ref (bO B + d) else mFv B σ q t j := by
  by_cases e : j = k
  · subst e
    rw [if_pos rfl, mTyR h]
    simp [mV, va_rf]
  · rw [if_neg e]
    unfold mFv
    simp only [mV, e, and_false, if_false]
theorem mCo_V {B : mBd} {σ : mS} {c i k : Nat} {x : Option Nat} (h : k ≠ c) (r : Nat × Nat) : mCellOf B (σ.1, mV σ.2.1 c i x, σ.2.2) k r = mCellOf B σ k r := by
  unfold mCellOf
  have e : ∀ t, mFv B (σ.1, mV σ.2.1 c i x, σ.2.2) k t = mFv B σ k t := by
    intro t
    funext j
    unfold mFv
    simp only [mV, h, false_and, if_false]
  simp only [e, mV, h, false_and, if_false]
theorem s_putR {i k ci : Nat} {C : String} {T : u_T} {N : Nat} (F : mFx B md p s m args meth c) (hd : decode (mBy md) pc = .ok (.putfield i, 3)) (hc : vwCl[ci]? = some (C, T, N)) (hk : k < N) (hw : Cond.fieldLink (mCn md) i (T k).1 (T k).2.1 (T k).2.2.1 ∈ gT) (hty : mFop false .null (mTy ci k) = 46) (hoc : mOc md = ci) (hal : mAl md ≠ (0, 0)) (h : o_putR cal X cap Qm (mGo B cap n0 p l e R s m args below meth c (mML md) Qk) (pc + 3) ci k v sw lv st σ) : (mGo B cap n0 p l e R s m args below meth c (mML md) Qk) pc lv st σ := by
  obtain ⟨q, n, d, r, rfl, hq, hdl, h⟩ := h
  intro H locs cells slots ls hy hS hl hu
  have hd9 : d < 1000 := Nat.lt_of_lt_of_le hdl hy.2.2.1
  show W p l e R s m args below meth c H locs cells slots Qk (F0 m pc ls (mTr B (.ref d) :: mTr B (.ref q) :: r.map (mTr B)))
  rw [mTr_lt (mCl hy hq), mTr_lt hd9]
  obtain ⟨hf, -, hdc⟩ := mFin_at (mCls hc).2.2.2.1 hk
  rw [hty] at hf
  have hnf : narrow (mTy ci k) (.ref (bO B + d)) = .ref (bO B + d) ∧ fits (mTy ci k) (.ref (bO B + d)) = true := by
    have hpd := (mCls hc).2.1 k hk
    have hdf := (mFin_at (mCls hc).2.2.2.1 hk).2.1
    unfold mFop at hty
    cases ht : mTy ci k <;> simp_all [mDef, defaultValue] <;> exact ⟨rfl, rfl⟩
  refine s_putA F hd hc hk hw (Or.inr ⟨hf, F.2.2.2.2.2.1 hal, by rw [hdc, ← hoc]; rfl⟩) hq hnf.1 hnf.2 (τ := (σ.1, mV σ.2.1 q k (some d), σ.2.2)) rfl (fun j _ => mVR hty j) (fun j hj w => mCo_V hj w) hy (fun c9 k9 d9 h9 => ?_) hy.2.2.2.2.2 hS hl hu h
  have h9 : mV σ.2.1 q k (some d) c9 k9 = some d9 := h9
  unfold mV at h9
  by_cases e9 : c9 = q ∧ k9 = k
  · rw [if_pos e9] at h9
    cases h9
    exact hdl
  · rw [if_neg e9] at h9
    exact hy.2.2.2.1 c9 k9 d9 h9
theorem s_getI {i k ci : Nat} {C : String} {T : u_T} {N : Nat} (F : mFx B md p s m args meth c) (hd : decode (mBy md) pc = .ok (.getfield i, 3)) (hc : vwCl[ci]? = some (C, T, N)) (hk : k < N) (hw : Cond.fieldLink (mCn md) i (T k).1 (T k).2.1 (T k).2.2.1 ∈ gT) (hty : mTy ci k = .int ∨ mTy ci k = .boolean) (h : o_getI cal X cap Qm (mGo B cap n0 p l e R s m args below meth c (mML md) Qk) (pc + 3) ci k v sw lv st σ) : (mGo B cap n0 p l e R s m args below meth c (mML md) Qk) pc lv st σ := by
  obtain ⟨q, n, r, rfl, hq, h⟩ := h
  refine s_getA F hd hc (mCls hc).1 hk hw hq (fun H hy => ?_) h
  unfold mFv
  rcases hty with ht | ht <;> rw [ht] <;> rfl
theorem s_getL {i k ci : Nat} {C : String} {T : u_T} {N : Nat} (F : mFx B md p s m args meth c) (hd : decode (mBy md) pc = .ok (.getfield i, 3)) (hc : vwCl[ci]? = some (C, T, N)) (hk : k < N) (hw : Cond.fieldLink (mCn md) i (T k).1 (T k).2.1 (T k).2.2.1 ∈ gT) (hty : mTy ci k = .long) (h : o_getL cal X cap Qm (mGo B cap n0 p l e R s m args below meth c (mML md) Qk) (pc + 3) ci k v sw lv st σ) : (mGo B cap n0 p l e R s m args below meth c (mML md) Qk) pc lv st σ := by
  obtain ⟨q, n, r, rfl, hq, h⟩ := h
  refine s_getA F hd hc (mCls hc).1 hk hw hq (fun H hy => ?_) h
  unfold mFv
  rw [hty]
  rfl
theorem s_getR {i k ci : Nat} {C : String} {T : u_T} {N : Nat} (F : mFx B md p s m args meth c) (hd : decode (mBy md) pc = .ok (.getfield i, 3)) (hc : vwCl[ci]? = some (C, T, N)) (hk : k < N) (hw : Cond.fieldLink (mCn md) i (T k).1 (T k).2.1 (T k).2.2.1 ∈ gT) (hty : mFop false .null (mTy ci k) = 46) (h : o_getR cal X cap Qm (mGo B cap n0 p l e R s m args below meth c (mML md) Qk) (pc + 3) ci k v sw lv st σ) : (mGo B cap n0 p l e R s m args below meth c (mML md) Qk) pc lv st σ := by
  obtain ⟨q, n, d, r, rfl, hq, hr, h⟩ := h
  refine s_getA F hd hc (mCls hc).1 hk hw hq (fun H hy => ?_) h
  rw [mTyR hty, hr, mTr_lt (Nat.lt_of_lt_of_le (hy.2.2.2.1 _ _ _ hr) hy.2.2.1)]
  rfl
end S4

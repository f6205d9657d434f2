/-! EACH OPERATION'S RULE is true of the machine: what moves no cell -/
def mFx (B : mBd) (md : Nat) (p : Program) (s : State) (m : MethodId) (args : Array Value) (meth : Method) (c : Code) : Prop :=
  p.tables.exec = Jvm.exec ∧ c.code = mBy md ∧ c.maxLocals = mML md ∧ s.vm.findClass (mCn md) = some m.cls ∧ (∀ w ∈ gT, w.before args s = true) ∧ (mAl md ≠ (0, 0) → meth.name = "<init>") ∧ mSt B s
def mBud (cap n0 : Nat × Nat) (R : Room) (σ : mS) (cells slots : Nat) : Prop := σ.2.2.2.length ≤ cap.1 ∧ mSum σ.2.2.2 ≤ cap.2 ∧ cells + (cap.1 - σ.2.2.2.length) ≤ R.cells ∧ slots + (cap.2 - mSum σ.2.2.2) ≤ R.slots ∧ n0.1 ≤ σ.2.2.2.length ∧ n0.2 ≤ mSum σ.2.2.2
def mGo (B : mBd) (cap n0 : Nat × Nat) (p : Program) (l : Launch) (e : Env) (R : Room) (s : State) (m : MethodId) (args : Array Value) (below : List Frame) (meth : Method) (c : Code) (nL : Nat) (Qk : State → Prop) : mWt := fun pc lv st σ =>
  ∀ (H : Heap) (locs : List Loc) (cells slots : Nat) (ls : Array Slot), mDy B σ H → va_S (bA B) s.heap H locs → mLv B ls nL lv → mBud cap n0 R σ cells slots → W p l e R s m args below meth c H locs cells slots Qk (F0 m pc ls (st.map (mTr B)))
section S1
variable {B : mBd} {cap n0 : Nat × Nat} {p : Program} {l : Launch} {e : Env} {R : Room} {s : State} {m : MethodId} {args : Array Value} {below : List Frame} {meth : Method} {c : Code} {Qk : State → Prop}
variable {md pc a b : Nat} {cal : mCal} {X : mX} {Qm : mPost} {v : Value} {sw : List (Int32 × Nat)} {lv st : List Value} {σ : mS}
theorem s_iconst {n : Int} (F : mFx B md p s m args meth c) (hd : decode (mBy md) pc = .ok (.iconst n, 1)) (h : o_push cal X cap Qm (mGo B cap n0 p l e R s m args below meth c (mML md) Qk) (pc + 1) a b (.int (Int32.ofInt n)) sw lv st σ) : (mGo B cap n0 p l e R s m args below meth c (mML md) Qk) pc lv st σ := by
  intro H locs cells slots ls hy hS hl hu
  exact lv_iconst F.1 F.2.1 hd rfl (h H locs cells slots ls hy hS hl hu)
theorem s_bipush {n : Int} (F : mFx B md p s m args meth c) (hd : decode (mBy md) pc = .ok (.bipush n, 2)) (h : o_push cal X cap Qm (mGo B cap n0 p l e R s m args below meth c (mML md) Qk) (pc + 2) a b (.int (Int8.ofInt n).toInt32) sw lv st σ) : (mGo B cap n0 p l e R s m args below meth c (mML md) Qk) pc lv st σ := by
  intro H locs cells slots ls hy hS hl hu
  exact lv_bipush F.1 F.2.1 hd rfl (h H locs cells slots ls hy hS hl hu)
theorem s_sipush {n : Int} (F : mFx B md p s m args meth c) (hd : decode (mBy md) pc = .ok (.sipush n, 3)) (h : o_push cal X cap Qm (mGo B cap n0 p l e R s m args below meth c (mML md) Qk) (pc + 3) a b (.int (Int16.ofInt n).toInt32) sw lv st σ) : (mGo B cap n0 p l e R s m args below meth c (mML md) Qk) pc lv st σ := by
  intro H locs cells slots ls hy hS hl hu
  exact lv_sipush F.1 F.2.1 hd rfl (h H locs cells slots ls hy hS hl hu)
theorem s_lconst {n : Fin 2} (F : mFx B md p s m args meth c) (hd : decode (mBy md) pc = .ok (.lconst n, 1)) (h : o_push cal X cap Qm (mGo B cap n0 p l e R s m args below meth c (mML md) Qk) (pc + 1) a b (.long (Int64.ofNat n)) sw lv st σ) : (mGo B cap n0 p l e R s m args below meth c (mML md) Qk) pc lv st σ := by
  intro H locs cells slots ls hy hS hl hu
  exact lv_lconst F.1 F.2.1 hd rfl (h H locs cells slots ls hy hS hl hu)
theorem s_ldcw {n : Nat} {w : Int32} (F : mFx B md p s m args meth c) (hd : decode (mBy md) pc = .ok (.ldc_w n, 3)) (hw : Cond.constant (mCn md) n w ∈ gT) (h : o_push cal X cap Qm (mGo B cap n0 p l e R s m args below meth c (mML md) Qk) (pc + 3) a b (.int w) sw lv st σ) : (mGo B cap n0 p l e R s m args below meth c (mML md) Qk) pc lv st σ := by
  intro H locs cells slots ls hy hS hl hu
  exact lv_ldcw F.1 F.2.1 F.2.2.2.1 (F.2.2.2.2.1 _ hw) hd (h H locs cells slots ls hy hS hl hu)
theorem s_ldc2 {n : Nat} {w : Int64} (F : mFx B md p s m args meth c) (hd : decode (mBy md) pc = .ok (.ldc2_w n, 3)) (hw : Cond.constantLong (mCn md) n w ∈ gT) (h : o_push cal X cap Qm (mGo B cap n0 p l e R s m args below meth c (mML md) Qk) (pc + 3) a b (.long w) sw lv st σ) : (mGo B cap n0 p l e R s m args below meth c (mML md) Qk) pc lv st σ := by
  intro H locs cells slots ls hy hS hl hu
  exact lv_ldc2 F.1 F.2.1 F.2.2.2.1 (F.2.2.2.2.1 _ hw) hd (h H locs cells slots ls hy hS hl hu)
theorem s_iload {n : Nat} (F : mFx B md p s m args meth c) (hd : decode (mBy md) pc = .ok (.iload n, 2)) (h : o_iload cal X cap Qm (mGo B cap n0 p l e R s m args below meth c (mML md) Qk) (pc + 2) n b v sw lv st σ) : (mGo B cap n0 p l e R s m args below meth c (mML md) Qk) pc lv st σ := by
  obtain ⟨x, g, h⟩ := h
  intro H locs cells slots ls hy hS hl hu
  exact lv_iload F.1 F.2.1 hd (hl.2.2.2.1 n _ g rfl) (h H locs cells slots ls hy hS hl hu)
theorem s_iload_n {n : Fin 4} (F : mFx B md p s m args meth c) (hd : decode (mBy md) pc = .ok (.iload_n n, 1)) (h : o_iload cal X cap Qm (mGo B cap n0 p l e R s m args below meth c (mML md) Qk) (pc + 1) n.val b v sw lv st σ) : (mGo B cap n0 p l e R s m args below meth c (mML md) Qk) pc lv st σ := by
  obtain ⟨x, g, h⟩ := h
  intro H locs cells slots ls hy hS hl hu
  exact lv_iload_n F.1 F.2.1 hd rfl (hl.2.2.2.1 n.val _ g rfl) (h H locs cells slots ls hy hS hl hu)
theorem s_lload {n : Nat} (F : mFx B md p s m args meth c) (hd : decode (mBy md) pc = .ok (.lload n, 2)) (h : o_lload cal X cap Qm (mGo B cap n0 p l e R s m args below meth c (mML md) Qk) (pc + 2) n b v sw lv st σ) : (mGo B cap n0 p l e R s m args below meth c (mML md) Qk) pc lv st σ := by
  obtain ⟨x, g, h⟩ := h
  intro H locs cells slots ls hy hS hl hu
  exact lv_lload F.1 F.2.1 hd (hl.2.2.2.1 n _ g rfl) (h H locs cells slots ls hy hS hl hu)
theorem s_lload_n {n : Fin 4} (F : mFx B md p s m args meth c) (hd : decode (mBy md) pc = .ok (.lload_n n, 1)) (h : o_lload cal X cap Qm (mGo B cap n0 p l e R s m args below meth c (mML md) Qk) (pc + 1) n.val b v sw lv st σ) : (mGo B cap n0 p l e R s m args below meth c (mML md) Qk) pc lv st σ := by
  obtain ⟨x, g, h⟩ := h
  intro H locs cells slots ls hy hS hl hu
  exact lv_lload_n F.1 F.2.1 hd rfl (hl.2.2.2.1 n.val _ g rfl) (h H locs cells slots ls hy hS hl hu)
theorem s_aload {n : Nat} (F : mFx B md p s m args meth c) (hd : decode (mBy md) pc = .ok (.aload n, 2)) (h : o_aload cal X cap Qm (mGo B cap n0 p l e R s m args below meth c (mML md) Qk) (pc + 2) n b v sw lv st σ) : (mGo B cap n0 p l e R s m args below meth c (mML md) Qk) pc lv st σ := by
  obtain ⟨q, g, g2, h⟩ := h
  intro H locs cells slots ls hy hS hl hu
  have h1 := hl.2.2.2.1 n _ g rfl
  have h2 := h H locs cells slots ls hy hS hl hu
  rw [List.map_cons, mTr_ref g2] at h2
  rw [mTr_ref g2] at h1
  exact lv_aload F.1 F.2.1 hd h1 h2
theorem s_aload_n {n : Fin 4} (F : mFx B md p s m args meth c) (hd : decode (mBy md) pc = .ok (.aload_n n, 1)) (h : o_aload cal X cap Qm (mGo B cap n0 p l e R s m args below meth c (mML md) Qk) (pc + 1) n.val b v sw lv st σ) : (mGo B cap n0 p l e R s m args below meth c (mML md) Qk) pc lv st σ := by
  obtain ⟨q, g, g2, h⟩ := h
  intro H locs cells slots ls hy hS hl hu
  have h1 := hl.2.2.2.1 n.val _ g rfl
  have h2 := h H locs cells slots ls hy hS hl hu
  rw [List.map_cons, mTr_ref g2] at h2
  rw [mTr_ref g2] at h1
  exact lv_aload_n F.1 F.2.1 hd rfl h1 h2
theorem s_istore {n : Nat} (F : mFx B md p s m args meth c) (hd : decode (mBy md) pc = .ok (.istore n, 2)) (h : o_istore cal X cap Qm (mGo B cap n0 p l e R s m args below meth c (mML md) Qk) (pc + 2) n b v sw lv st σ) : (mGo B cap n0 p l e R s m args below meth c (mML md) Qk) pc lv st σ := by
  obtain ⟨x, r, rfl, g2, h⟩ := h
  intro H locs cells slots ls hy hS hl hu
  have hn : n < mML md := by
    rw [← hl.2.2.1]
    unfold mLk at g2
    cases hq : lv[n]? with
    | none => rw [hq] at g2; cases g2
    | some _ => exact (List.getElem?_eq_some_iff.mp hq).1
  exact lv_istore F.1 F.2.1 hd (mLv_has hl) hn rfl (fun ls' hl' => h H locs cells slots ls' hy hS (mLv_put F.2.2.2.2.2.2.2.2.2.2.2.2.2.2.2.2.2.1 hl g2 rfl hl') hu)
theorem s_astore {n : Nat} (F : mFx B md p s m args meth c) (hd : decode (mBy md) pc = .ok (.astore n, 2)) (h : o_astore cal X cap Qm (mGo B cap n0 p l e R s m args below meth c (mML md) Qk) (pc + 2) n b v sw lv st σ) : (mGo B cap n0 p l e R s m args below meth c (mML md) Qk) pc lv st σ := by
  obtain ⟨q, r, rfl, g1, g2, h⟩ := h
  intro H locs cells slots ls hy hS hl hu
  have hn : n < mML md := by
    rw [← hl.2.2.1]
    unfold mLk at g2
    cases hq : lv[n]? with
    | none => rw [hq] at g2; cases g2
    | some _ => exact (List.getElem?_eq_some_iff.mp hq).1
  rw [List.map_cons, mTr_ref g1]
  exact lv_astore F.1 F.2.1 hd (mLv_has hl) hn rfl (fun ls' hl' => h H locs cells slots ls' hy hS (mLv_put (u := .ref q) F.2.2.2.2.2.2.2.2.2.2.2.2.2.2.2.2.2.1 hl g2 rfl (by rw [mTr_ref g1]; exact hl')) hu)
theorem s_istore_n {n : Fin 4} (F : mFx B md p s m args meth c) (hd : decode (mBy md) pc = .ok (.istore_n n, 1)) (h : o_istore cal X cap Qm (mGo B cap n0 p l e R s m args below meth c (mML md) Qk) (pc + 1) n.val b v sw lv st σ) : (mGo B cap n0 p l e R s m args below meth c (mML md) Qk) pc lv st σ := by
  obtain ⟨x, r, rfl, g2, h⟩ := h
  intro H locs cells slots ls hy hS hl hu
  have hn : n.val < mML md := by
    rw [← hl.2.2.1]
    unfold mLk at g2
    cases hq : lv[n.val]? with
    | none => rw [hq] at g2; cases g2
    | some _ => exact (List.getElem?_eq_some_iff.mp hq).1
  exact lv_istore_n F.1 F.2.1 hd rfl (mLv_has hl) hn rfl (fun ls' hl' => h H locs cells slots ls' hy hS (mLv_put F.2.2.2.2.2.2.2.2.2.2.2.2.2.2.2.2.2.1 hl g2 rfl hl') hu)
theorem s_astore_n {n : Fin 4} (F : mFx B md p s m args meth c) (hd : decode (mBy md) pc = .ok (.astore_n n, 1)) (h : o_astore cal X cap Qm (mGo B cap n0 p l e R s m args below meth c (mML md) Qk) (pc + 1) n.val b v sw lv st σ) : (mGo B cap n0 p l e R s m args below meth c (mML md) Qk) pc lv st σ := by
  obtain ⟨q, r, rfl, g1, g2, h⟩ := h
  intro H locs cells slots ls hy hS hl hu
  have hn : n.val < mML md := by
    rw [← hl.2.2.1]
    unfold mLk at g2
    cases hq : lv[n.val]? with
    | none => rw [hq] at g2; cases g2
    | some _ => exact (List.getElem?_eq_some_iff.mp hq).1
  rw [List.map_cons, mTr_ref g1]
  exact lv_astore_n F.1 F.2.1 hd rfl (mLv_has hl) hn rfl (fun ls' hl' => h H locs cells slots ls' hy hS (mLv_put (u := .ref q) F.2.2.2.2.2.2.2.2.2.2.2.2.2.2.2.2.2.1 hl g2 rfl (by rw [mTr_ref g1]; exact hl')) hu)
theorem s_iinc {n : Nat} {w : Int} (F : mFx B md p s m args meth c) (hd : decode (mBy md) pc = .ok (.iinc n w, 3)) (h : o_iinc cal X cap Qm (mGo B cap n0 p l e R s m args below meth c (mML md) Qk) (pc + 3) n b (.int (Int32.ofInt w)) sw lv st σ) : (mGo B cap n0 p l e R s m args below meth c (mML md) Qk) pc lv st σ := by
  obtain ⟨x, y, g, gv, g2, h⟩ := h
  intro H locs cells slots ls hy hS hl hu
  cases gv
  have hn : n < mML md := by
    rw [← hl.2.2.1]
    unfold mLk at g2
    cases hq : lv[n]? with
    | none => rw [hq] at g2; cases g2
    | some _ => exact (List.getElem?_eq_some_iff.mp hq).1
  obtain ⟨k, hk⟩ := List.getElem?_of_mem (mLv_in (B := B) g rfl)
  exact lv_iinc F.1 F.2.1 hd (mLv_has hl) hk rfl hn rfl (fun ls' hl' => h H locs cells slots ls' hy hS (mLv_put (u := .int (x + Int32.ofInt w)) F.2.2.2.2.2.2.2.2.2.2.2.2.2.2.2.2.2.1 hl g2 rfl hl') hu)
theorem s_iadd (F : mFx B md p s m args meth c) (hd : decode (mBy md) pc = .ok (.iadd, 1)) (h : o_iadd cal X cap Qm (mGo B cap n0 p l e R s m args below meth c (mML md) Qk) (pc + 1) a b v sw lv st σ) : (mGo B cap n0 p l e R s m args below meth c (mML md) Qk) pc lv st σ := by
  obtain ⟨x, y, r, rfl, h⟩ := h
  intro H locs cells slots ls hy hS hl hu
  exact lv_iadd F.1 F.2.1 hd (h H locs cells slots ls hy hS hl hu)
theorem s_isub (F : mFx B md p s m args meth c) (hd : decode (mBy md) pc = .ok (.isub, 1)) (h : o_isub cal X cap Qm (mGo B cap n0 p l e R s m args below meth c (mML md) Qk) (pc + 1) a b v sw lv st σ) : (mGo B cap n0 p l e R s m args below meth c (mML md) Qk) pc lv st σ := by
  obtain ⟨x, y, r, rfl, h⟩ := h
  intro H locs cells slots ls hy hS hl hu
  exact lv_isub F.1 F.2.1 hd (h H locs cells slots ls hy hS hl hu)
theorem s_imul (F : mFx B md p s m args meth c) (hd : decode (mBy md) pc = .ok (.imul, 1)) (h : o_imul cal X cap Qm (mGo B cap n0 p l e R s m args below meth c (mML md) Qk) (pc + 1) a b v sw lv st σ) : (mGo B cap n0 p l e R s m args below meth c (mML md) Qk) pc lv st σ := by
  obtain ⟨x, y, r, rfl, h⟩ := h
  intro H locs cells slots ls hy hS hl hu
  exact lv_imul F.1 F.2.1 hd (h H locs cells slots ls hy hS hl hu)
theorem s_iand (F : mFx B md p s m args meth c) (hd : decode (mBy md) pc = .ok (.iand, 1)) (h : o_iand cal X cap Qm (mGo B cap n0 p l e R s m args below meth c (mML md) Qk) (pc + 1) a b v sw lv st σ) : (mGo B cap n0 p l e R s m args below meth c (mML md) Qk) pc lv st σ := by
  obtain ⟨x, y, r, rfl, h⟩ := h
  intro H locs cells slots ls hy hS hl hu
  exact lv_iand F.1 F.2.1 hd (h H locs cells slots ls hy hS hl hu)
theorem s_ior (F : mFx B md p s m args meth c) (hd : decode (mBy md) pc = .ok (.ior, 1)) (h : o_ior cal X cap Qm (mGo B cap n0 p l e R s m args below meth c (mML md) Qk) (pc + 1) a b v sw lv st σ) : (mGo B cap n0 p l e R s m args below meth c (mML md) Qk) pc lv st σ := by
  obtain ⟨x, y, r, rfl, h⟩ := h
  intro H locs cells slots ls hy hS hl hu
  exact lv_ior F.1 F.2.1 hd (h H locs cells slots ls hy hS hl hu)
theorem s_ixor (F : mFx B md p s m args meth c) (hd : decode (mBy md) pc = .ok (.ixor, 1)) (h : o_ixor cal X cap Qm (mGo B cap n0 p l e R s m args below meth c (mML md) Qk) (pc + 1) a b v sw lv st σ) : (mGo B cap n0 p l e R s m args below meth c (mML md) Qk) pc lv st σ := by
  obtain ⟨x, y, r, rfl, h⟩ := h
  intro H locs cells slots ls hy hS hl hu
  exact lv_ixor F.1 F.2.1 hd (h H locs cells slots ls hy hS hl hu)
theorem s_ishl (F : mFx B md p s m args meth c) (hd : decode (mBy md) pc = .ok (.ishl, 1)) (h : o_ishl cal X cap Qm (mGo B cap n0 p l e R s m args below meth c (mML md) Qk) (pc + 1) a b v sw lv st σ) : (mGo B cap n0 p l e R s m args below meth c (mML md) Qk) pc lv st σ := by
  obtain ⟨x, y, r, rfl, h⟩ := h
  intro H locs cells slots ls hy hS hl hu
  exact lv_ishl F.1 F.2.1 hd (h H locs cells slots ls hy hS hl hu)
theorem s_ishr (F : mFx B md p s m args meth c) (hd : decode (mBy md) pc = .ok (.ishr, 1)) (h : o_ishr cal X cap Qm (mGo B cap n0 p l e R s m args below meth c (mML md) Qk) (pc + 1) a b v sw lv st σ) : (mGo B cap n0 p l e R s m args below meth c (mML md) Qk) pc lv st σ := by
  obtain ⟨x, y, r, rfl, h⟩ := h
  intro H locs cells slots ls hy hS hl hu
  exact lv_ishr F.1 F.2.1 hd (h H locs cells slots ls hy hS hl hu)
theorem s_iushr (F : mFx B md p s m args meth c) (hd : decode (mBy md) pc = .ok (.iushr, 1)) (h : o_iushr cal X cap Qm (mGo B cap n0 p l e R s m args below meth c (mML md) Qk) (pc + 1) a b v sw lv st σ) : (mGo B cap n0 p l e R s m args below meth c (mML md) Qk) pc lv st σ := by
  obtain ⟨x, y, r, rfl, h⟩ := h
  intro H locs cells slots ls hy hS hl hu
  exact lv_iushr F.1 F.2.1 hd rfl (h H locs cells slots ls hy hS hl hu)
theorem s_idiv (F : mFx B md p s m args meth c) (hd : decode (mBy md) pc = .ok (.idiv, 1)) (h : o_idiv cal X cap Qm (mGo B cap n0 p l e R s m args below meth c (mML md) Qk) (pc + 1) a b v sw lv st σ) : (mGo B cap n0 p l e R s m args below meth c (mML md) Qk) pc lv st σ := by
  obtain ⟨x, y, r, rfl, g, h⟩ := h
  intro H locs cells slots ls hy hS hl hu
  exact lv_idiv F.1 F.2.1 hd g (h H locs cells slots ls hy hS hl hu)
theorem s_irem (F : mFx B md p s m args meth c) (hd : decode (mBy md) pc = .ok (.irem, 1)) (h : o_irem cal X cap Qm (mGo B cap n0 p l e R s m args below meth c (mML md) Qk) (pc + 1) a b v sw lv st σ) : (mGo B cap n0 p l e R s m args below meth c (mML md) Qk) pc lv st σ := by
  obtain ⟨x, y, r, rfl, g, h⟩ := h
  intro H locs cells slots ls hy hS hl hu
  exact lv_irem F.1 F.2.1 hd g (h H locs cells slots ls hy hS hl hu)
theorem s_i2b (F : mFx B md p s m args meth c) (hd : decode (mBy md) pc = .ok (.i2b, 1)) (h : o_i2b cal X cap Qm (mGo B cap n0 p l e R s m args below meth c (mML md) Qk) (pc + 1) a b v sw lv st σ) : (mGo B cap n0 p l e R s m args below meth c (mML md) Qk) pc lv st σ := by
  obtain ⟨x, r, rfl, h⟩ := h
  intro H locs cells slots ls hy hS hl hu
  exact lv_i2b F.1 F.2.1 hd rfl (h H locs cells slots ls hy hS hl hu)
theorem s_i2c (F : mFx B md p s m args meth c) (hd : decode (mBy md) pc = .ok (.i2c, 1)) (h : o_i2c cal X cap Qm (mGo B cap n0 p l e R s m args below meth c (mML md) Qk) (pc + 1) a b v sw lv st σ) : (mGo B cap n0 p l e R s m args below meth c (mML md) Qk) pc lv st σ := by
  obtain ⟨x, r, rfl, h⟩ := h
  intro H locs cells slots ls hy hS hl hu
  exact lv_i2c F.1 F.2.1 hd rfl (h H locs cells slots ls hy hS hl hu)
theorem s_i2l (F : mFx B md p s m args meth c) (hd : decode (mBy md) pc = .ok (.i2l, 1)) (h : o_i2l cal X cap Qm (mGo B cap n0 p l e R s m args below meth c (mML md) Qk) (pc + 1) a b v sw lv st σ) : (mGo B cap n0 p l e R s m args below meth c (mML md) Qk) pc lv st σ := by
  obtain ⟨x, r, rfl, h⟩ := h
  intro H locs cells slots ls hy hS hl hu
  exact lv_i2l F.1 F.2.1 hd rfl (h H locs cells slots ls hy hS hl hu)
theorem s_lor (F : mFx B md p s m args meth c) (hd : decode (mBy md) pc = .ok (.lor, 1)) (h : o_lor cal X cap Qm (mGo B cap n0 p l e R s m args below meth c (mML md) Qk) (pc + 1) a b v sw lv st σ) : (mGo B cap n0 p l e R s m args below meth c (mML md) Qk) pc lv st σ := by
  obtain ⟨x, y, r, rfl, h⟩ := h
  intro H locs cells slots ls hy hS hl hu
  exact lv_lor F.1 F.2.1 hd (h H locs cells slots ls hy hS hl hu)
theorem s_lshl (F : mFx B md p s m args meth c) (hd : decode (mBy md) pc = .ok (.lshl, 1)) (h : o_lshl cal X cap Qm (mGo B cap n0 p l e R s m args below meth c (mML md) Qk) (pc + 1) a b v sw lv st σ) : (mGo B cap n0 p l e R s m args below meth c (mML md) Qk) pc lv st σ := by
  obtain ⟨x, y, r, rfl, h⟩ := h
  intro H locs cells slots ls hy hS hl hu
  exact lv_lshl F.1 F.2.1 hd rfl (h H locs cells slots ls hy hS hl hu)
theorem s_lcmp (F : mFx B md p s m args meth c) (hd : decode (mBy md) pc = .ok (.lcmp, 1)) (h : o_lcmp cal X cap Qm (mGo B cap n0 p l e R s m args below meth c (mML md) Qk) (pc + 1) a b v sw lv st σ) : (mGo B cap n0 p l e R s m args below meth c (mML md) Qk) pc lv st σ := by
  obtain ⟨x, y, r, rfl, h⟩ := h
  intro H locs cells slots ls hy hS hl hu
  exact W.lcmp F.1 F.2.1 hd (h H locs cells slots ls hy hS hl hu)
theorem s_dup (F : mFx B md p s m args meth c) (hd : decode (mBy md) pc = .ok (.dup, 1)) (h : o_dup cal X cap Qm (mGo B cap n0 p l e R s m args below meth c (mML md) Qk) (pc + 1) a b v sw lv st σ) : (mGo B cap n0 p l e R s m args below meth c (mML md) Qk) pc lv st σ := by
  obtain ⟨u, r, rfl, g, h⟩ := h
  intro H locs cells slots ls hy hS hl hu
  exact lv_dup F.1 F.2.1 hd (by rw [mTr_cat F.2.2.2.2.2.2.2.2.2.2.2.2.2.2.2.2.2.1]; exact g) (h H locs cells slots ls hy hS hl hu)
theorem s_pop (F : mFx B md p s m args meth c) (hd : decode (mBy md) pc = .ok (.pop, 1)) (h : o_pop cal X cap Qm (mGo B cap n0 p l e R s m args below meth c (mML md) Qk) (pc + 1) a b v sw lv st σ) : (mGo B cap n0 p l e R s m args below meth c (mML md) Qk) pc lv st σ := by
  obtain ⟨u, r, rfl, g, h⟩ := h
  intro H locs cells slots ls hy hS hl hu
  exact lv_pop F.1 F.2.1 hd (by rw [mTr_cat F.2.2.2.2.2.2.2.2.2.2.2.2.2.2.2.2.2.1]; exact g) (h H locs cells slots ls hy hS hl hu)
theorem s_dup2 (F : mFx B md p s m args meth c) (hd : decode (mBy md) pc = .ok (.dup2, 1)) (h : o_dup2 cal X cap Qm (mGo B cap n0 p l e R s m args below meth c (mML md) Qk) (pc + 1) a b v sw lv st σ) : (mGo B cap n0 p l e R s m args below meth c (mML md) Qk) pc lv st σ := by
  obtain ⟨u, w, r, rfl, g, g2, h⟩ := h
  intro H locs cells slots ls hy hS hl hu
  exact lv_dup2_11 F.1 F.2.1 hd (by rw [mTr_cat F.2.2.2.2.2.2.2.2.2.2.2.2.2.2.2.2.2.1]; exact g) (by rw [mTr_cat F.2.2.2.2.2.2.2.2.2.2.2.2.2.2.2.2.2.1]; exact g2) (h H locs cells slots ls hy hS hl hu)
theorem s_goto {o : Int} (F : mFx B md p s m args meth c) (hd : decode (mBy md) pc = .ok (.goto o, 3)) (ht : (pc : Int) + o = (a : Int)) (h : o_goto cal X cap Qm (mGo B cap n0 p l e R s m args below meth c (mML md) Qk) (pc + 3) a b v sw lv st σ) : (mGo B cap n0 p l e R s m args below meth c (mML md) Qk) pc lv st σ := by
  intro H locs cells slots ls hy hS hl hu
  exact lv_goto F.1 F.2.1 hd ht (h H locs cells slots ls hy hS hl hu)
theorem s_ifeq {o : Int} (F : mFx B md p s m args meth c) (hd : decode (mBy md) pc = .ok (.ifCond .eq o, 3)) (ht : (pc : Int) + o = (a : Int)) (h : o_ifeq cal X cap Qm (mGo B cap n0 p l e R s m args below meth c (mML md) Qk) (pc + 3) a b v sw lv st σ) : (mGo B cap n0 p l e R s m args below meth c (mML md) Qk) pc lv st σ := by
  obtain ⟨x, r, rfl, h⟩ := h
  intro H locs cells slots ls hy hS hl hu
  exact lv_if_eq F.1 F.2.1 hd ht (fun q => h.1 q H locs cells slots ls hy hS hl hu) (fun q => h.2 q H locs cells slots ls hy hS hl hu)
theorem s_iceq {o : Int} (F : mFx B md p s m args meth c) (hd : decode (mBy md) pc = .ok (.if_icmp .eq o, 3)) (ht : (pc : Int) + o = (a : Int)) (h : o_iceq cal X cap Qm (mGo B cap n0 p l e R s m args below meth c (mML md) Qk) (pc + 3) a b v sw lv st σ) : (mGo B cap n0 p l e R s m args below meth c (mML md) Qk) pc lv st σ := by
  obtain ⟨x, y, r, rfl, h⟩ := h
  intro H locs cells slots ls hy hS hl hu
  exact lv_icmp_eq F.1 F.2.1 hd ht (fun q => h.1 q H locs cells slots ls hy hS hl hu) (fun q => h.2 q H locs cells slots ls hy hS hl hu)
theorem s_ifne {o : Int} (F : mFx B md p s m args meth c) (hd : decode (mBy md) pc = .ok (.ifCond .ne o, 3)) (ht : (pc : Int) + o = (a : Int)) (h : o_ifne cal X cap Qm (mGo B cap n0 p l e R s m args below meth c (mML md) Qk) (pc + 3) a b v sw lv st σ) : (mGo B cap n0 p l e R s m args below meth c (mML md) Qk) pc lv st σ := by
  obtain ⟨x, r, rfl, h⟩ := h
  intro H locs cells slots ls hy hS hl hu
  exact lv_if_ne F.1 F.2.1 hd ht (fun q => h.2 q H locs cells slots ls hy hS hl hu) (fun q => h.1 q H locs cells slots ls hy hS hl hu)
theorem s_icne {o : Int} (F : mFx B md p s m args meth c) (hd : decode (mBy md) pc = .ok (.if_icmp .ne o, 3)) (ht : (pc : Int) + o = (a : Int)) (h : o_icne cal X cap Qm (mGo B cap n0 p l e R s m args below meth c (mML md) Qk) (pc + 3) a b v sw lv st σ) : (mGo B cap n0 p l e R s m args below meth c (mML md) Qk) pc lv st σ := by
  obtain ⟨x, y, r, rfl, h⟩ := h
  intro H locs cells slots ls hy hS hl hu
  exact lv_icmp_ne F.1 F.2.1 hd ht (fun q => h.2 q H locs cells slots ls hy hS hl hu) (fun q => h.1 q H locs cells slots ls hy hS hl hu)
theorem s_iflt {o : Int} (F : mFx B md p s m args meth c) (hd : decode (mBy md) pc = .ok (.ifCond .lt o, 3)) (ht : (pc : Int) + o = (a : Int)) (h : o_iflt cal X cap Qm (mGo B cap n0 p l e R s m args below meth c (mML md) Qk) (pc + 3) a b v sw lv st σ) : (mGo B cap n0 p l e R s m args below meth c (mML md) Qk) pc lv st σ := by
  obtain ⟨x, r, rfl, h⟩ := h
  intro H locs cells slots ls hy hS hl hu
  exact lv_if_lt F.1 F.2.1 hd ht (fun q => h.1 q H locs cells slots ls hy hS hl hu) (fun q => h.2 q H locs cells slots ls hy hS hl hu)
theorem s_iclt {o : Int} (F : mFx B md p s m args meth c) (hd : decode (mBy md) pc = .ok (.if_icmp .lt o, 3)) (ht : (pc : Int) + o = (a : Int)) (h : o_iclt cal X cap Qm (mGo B cap n0 p l e R s m args below meth c (mML md) Qk) (pc + 3) a b v sw lv st σ) : (mGo B cap n0 p l e R s m args below meth c (mML md) Qk) pc lv st σ := by
  obtain ⟨x, y, r, rfl, h⟩ := h
  intro H locs cells slots ls hy hS hl hu
  exact lv_icmp_lt F.1 F.2.1 hd ht (fun q => h.1 q H locs cells slots ls hy hS hl hu) (fun q => h.2 q H locs cells slots ls hy hS hl hu)
theorem s_ifge {o : Int} (F : mFx B md p s m args meth c) (hd : decode (mBy md) pc = .ok (.ifCond .ge o, 3)) (ht : (pc : Int) + o = (a : Int)) (h : o_ifge cal X cap Qm (mGo B cap n0 p l e R s m args below meth c (mML md) Qk) (pc + 3) a b v sw lv st σ) : (mGo B cap n0 p l e R s m args below meth c (mML md) Qk) pc lv st σ := by
  obtain ⟨x, r, rfl, h⟩ := h
  intro H locs cells slots ls hy hS hl hu
  exact lv_if_ge F.1 F.2.1 hd ht (fun q => h.1 q H locs cells slots ls hy hS hl hu) (fun q => h.2 q H locs cells slots ls hy hS hl hu)
theorem s_icge {o : Int} (F : mFx B md p s m args meth c) (hd : decode (mBy md) pc = .ok (.if_icmp .ge o, 3)) (ht : (pc : Int) + o = (a : Int)) (h : o_icge cal X cap Qm (mGo B cap n0 p l e R s m args below meth c (mML md) Qk) (pc + 3) a b v sw lv st σ) : (mGo B cap n0 p l e R s m args below meth c (mML md) Qk) pc lv st σ := by
  obtain ⟨x, y, r, rfl, h⟩ := h
  intro H locs cells slots ls hy hS hl hu
  exact lv_icmp_ge F.1 F.2.1 hd ht (fun q => h.1 q H locs cells slots ls hy hS hl hu) (fun q => h.2 q H locs cells slots ls hy hS hl hu)
theorem s_ifgt {o : Int} (F : mFx B md p s m args meth c) (hd : decode (mBy md) pc = .ok (.ifCond .gt o, 3)) (ht : (pc : Int) + o = (a : Int)) (h : o_ifgt cal X cap Qm (mGo B cap n0 p l e R s m args below meth c (mML md) Qk) (pc + 3) a b v sw lv st σ) : (mGo B cap n0 p l e R s m args below meth c (mML md) Qk) pc lv st σ := by
  obtain ⟨x, r, rfl, h⟩ := h
  intro H locs cells slots ls hy hS hl hu
  exact lv_if_gt F.1 F.2.1 hd ht (fun q => h.1 q H locs cells slots ls hy hS hl hu) (fun q => h.2 q H locs cells slots ls hy hS hl hu)
theorem s_icgt {o : Int} (F : mFx B md p s m args meth c) (hd : decode (mBy md) pc = .ok (.if_icmp .gt o, 3)) (ht : (pc : Int) + o = (a : Int)) (h : o_icgt cal X cap Qm (mGo B cap n0 p l e R s m args below meth c (mML md) Qk) (pc + 3) a b v sw lv st σ) : (mGo B cap n0 p l e R s m args below meth c (mML md) Qk) pc lv st σ := by
  obtain ⟨x, y, r, rfl, h⟩ := h
  intro H locs cells slots ls hy hS hl hu
  exact lv_icmp_gt F.1 F.2.1 hd ht (fun q => h.1 q H locs cells slots ls hy hS hl hu) (fun q => h.2 q H locs cells slots ls hy hS hl hu)
theorem s_ifle {o : Int} (F : mFx B md p s m args meth c) (hd : decode (mBy md) pc = .ok (.ifCond .le o, 3)) (ht : (pc : Int) + o = (a : Int)) (h : o_ifle cal X cap Qm (mGo B cap n0 p l e R s m args below meth c (mML md) Qk) (pc + 3) a b v sw lv st σ) : (mGo B cap n0 p l e R s m args below meth c (mML md) Qk) pc lv st σ := by
  obtain ⟨x, r, rfl, h⟩ := h
  intro H locs cells slots ls hy hS hl hu
  exact lv_if_le F.1 F.2.1 hd ht (fun q => h.1 q H locs cells slots ls hy hS hl hu) (fun q => h.2 q H locs cells slots ls hy hS hl hu)
theorem s_icle {o : Int} (F : mFx B md p s m args meth c) (hd : decode (mBy md) pc = .ok (.if_icmp .le o, 3)) (ht : (pc : Int) + o = (a : Int)) (h : o_icle cal X cap Qm (mGo B cap n0 p l e R s m args below meth c (mML md) Qk) (pc + 3) a b v sw lv st σ) : (mGo B cap n0 p l e R s m args below meth c (mML md) Qk) pc lv st σ := by
  obtain ⟨x, y, r, rfl, h⟩ := h
  intro H locs cells slots ls hy hS hl hu
  exact lv_icmp_le F.1 F.2.1 hd ht (fun q => h.1 q H locs cells slots ls hy hS hl hu) (fun q => h.2 q H locs cells slots ls hy hS hl hu)
end S1

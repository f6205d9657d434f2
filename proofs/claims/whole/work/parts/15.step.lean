/-- a constructor answers nothing -/
def mIniB (md : Nat) : Bool := decide ((mYs md).name ≠ "<init>") || (mRt md).isNone
theorem mIni_all : (List.range 182).all mIniB = true := by decide +kernel
theorem mInit_v {md : Nat} (h : (mYs md).name = "<init>") (hl : md < mTl.length) : mRt md = none := by
  have h1 := List.all_eq_true.mp mIni_all md (List.mem_range.mpr (by rw [mT_len] at hl; exact hl))
  simp only [mIniB, Bool.or_eq_true, decide_eq_true_eq, Option.isNone_iff_eq_none] at h1
  exact h1.elim (fun z => absurd h z) id
/-! ONE STEP of the small machine is a step of the machine -/
theorem mIf_ok {b : Bool} {x y : mE} (h : mIf b x = some y) : b = true ∧ x = y := by
  unfold mIf at h
  cases b with
  | true => exact ⟨rfl, Option.some.inj h⟩
  | false => cases h
theorem mo_at_push : mOps[0]? = some o_push := rfl
theorem mo_at_iload : mOps[1]? = some o_iload := rfl
theorem mo_at_aload : mOps[2]? = some o_aload := rfl
theorem mo_at_lload : mOps[3]? = some o_lload := rfl
theorem mo_at_istore : mOps[4]? = some o_istore := rfl
theorem mo_at_astore : mOps[5]? = some o_astore := rfl
theorem mo_at_iinc : mOps[6]? = some o_iinc := rfl
theorem mo_at_iadd : mOps[7]? = some o_iadd := rfl
theorem mo_at_isub : mOps[8]? = some o_isub := rfl
theorem mo_at_imul : mOps[9]? = some o_imul := rfl
theorem mo_at_idiv : mOps[10]? = some o_idiv := rfl
theorem mo_at_irem : mOps[11]? = some o_irem := rfl
theorem mo_at_iand : mOps[12]? = some o_iand := rfl
theorem mo_at_ior : mOps[13]? = some o_ior := rfl
theorem mo_at_ixor : mOps[14]? = some o_ixor := rfl
theorem mo_at_ishl : mOps[15]? = some o_ishl := rfl
theorem mo_at_ishr : mOps[16]? = some o_ishr := rfl
theorem mo_at_iushr : mOps[17]? = some o_iushr := rfl
theorem mo_at_i2b : mOps[18]? = some o_i2b := rfl
theorem mo_at_i2c : mOps[19]? = some o_i2c := rfl
theorem mo_at_i2l : mOps[20]? = some o_i2l := rfl
theorem mo_at_lor : mOps[21]? = some o_lor := rfl
theorem mo_at_lshl : mOps[22]? = some o_lshl := rfl
theorem mo_at_lcmp : mOps[23]? = some o_lcmp := rfl
theorem mo_at_dup : mOps[24]? = some o_dup := rfl
theorem mo_at_pop : mOps[25]? = some o_pop := rfl
theorem mo_at_dup2 : mOps[26]? = some o_dup2 := rfl
theorem mo_at_goto : mOps[27]? = some o_goto := rfl
theorem mo_at_ifeq : mOps[28]? = some o_ifeq := rfl
theorem mo_at_ifne : mOps[29]? = some o_ifne := rfl
theorem mo_at_iflt : mOps[30]? = some o_iflt := rfl
theorem mo_at_ifge : mOps[31]? = some o_ifge := rfl
theorem mo_at_ifgt : mOps[32]? = some o_ifgt := rfl
theorem mo_at_ifle : mOps[33]? = some o_ifle := rfl
theorem mo_at_iceq : mOps[34]? = some o_iceq := rfl
theorem mo_at_icne : mOps[35]? = some o_icne := rfl
theorem mo_at_iclt : mOps[36]? = some o_iclt := rfl
theorem mo_at_icge : mOps[37]? = some o_icge := rfl
theorem mo_at_icgt : mOps[38]? = some o_icgt := rfl
theorem mo_at_icle : mOps[39]? = some o_icle := rfl
theorem mo_at_switch : mOps[40]? = some o_switch := rfl
theorem mo_at_getI : mOps[41]? = some o_getI := rfl
theorem mo_at_getR : mOps[42]? = some o_getR := rfl
theorem mo_at_getL : mOps[43]? = some o_getL := rfl
theorem mo_at_putI : mOps[44]? = some o_putI := rfl
theorem mo_at_putZ : mOps[45]? = some o_putZ := rfl
theorem mo_at_putR : mOps[46]? = some o_putR := rfl
theorem mo_at_putL : mOps[47]? = some o_putL := rfl
theorem mo_at_strV : mOps[48]? = some o_strV := rfl
theorem mo_at_strC : mOps[49]? = some o_strC := rfl
theorem mo_at_iald : mOps[50]? = some o_iald := rfl
theorem mo_at_bald : mOps[51]? = some o_bald := rfl
theorem mo_at_aald : mOps[52]? = some o_aald := rfl
theorem mo_at_iast : mOps[53]? = some o_iast := rfl
theorem mo_at_bast : mOps[54]? = some o_bast := rfl
theorem mo_at_aast : mOps[55]? = some o_aast := rfl
theorem mo_at_alen : mOps[56]? = some o_alen := rfl
theorem mo_at_new : mOps[57]? = some o_new := rfl
theorem mo_at_newa : mOps[58]? = some o_newa := rfl
theorem mo_at_mna : mOps[59]? = some o_mna := rfl
theorem mo_at_callV : mOps[60]? = some o_callV := rfl
theorem mo_at_callT : mOps[61]? = some o_callT := rfl
theorem mo_at_callS : mOps[62]? = some o_callS := rfl
theorem mo_at_callI : mOps[63]? = some o_callI := rfl
theorem mo_at_objI : mOps[64]? = some o_objI := rfl
theorem mo_at_acopy : mOps[65]? = some o_acopy := rfl
theorem mo_at_iret : mOps[66]? = some o_iret := rfl
theorem mo_at_zret : mOps[67]? = some o_zret := rfl
theorem mo_at_cret : mOps[68]? = some o_cret := rfl
theorem mo_at_bret : mOps[69]? = some o_bret := rfl
theorem mo_at_vret : mOps[70]? = some o_vret := rfl
theorem mo_at_vretC : mOps[71]? = some o_vretC := rfl
theorem mFR_get {md i : Nat} {q : Nat × Nat × Nat × Nat × Nat} (hq : mFR.find? (fun q => q.1 == mOc md && q.2.1 == i) = some q) : (q.2.2.1 = 30 ∧ ((q.2.2.2.1 = 0 ∧ Cond.fieldLink (mCn md) i "java/lang/String" "value" "[B" ∈ gT) ∨ (¬ q.2.2.2.1 = 0 ∧ Cond.fieldLink (mCn md) i "java/lang/String" "coder" "B" ∈ gT))) ∨ (¬ q.2.2.1 = 30 ∧ ∃ (C : String) (T : u_T) (N : Nat), vwCl[q.2.2.1]? = some (C, T, N) ∧ q.2.2.2.1 < N ∧ Cond.fieldLink (mCn md) i (T q.2.2.2.1).1 (T q.2.2.2.1).2.1 (T q.2.2.2.1).2.2.1 ∈ gT) := by
  have hm := List.mem_of_find?_eq_some hq
  have hp := List.find?_some hq
  simp only [Bool.and_eq_true, beq_iff_eq] at hp
  have hc := List.all_eq_true.mp mFR_ok q hm
  have ho : mOwn q.1 = mCn md := by rw [hp.1]; rfl
  unfold mFchk at hc
  by_cases h30 : q.2.2.1 = 30
  · rw [if_pos h30] at hc
    have hc := of_decide_eq_true hc
    rw [ho, hp.2] at hc
    by_cases h0 : q.2.2.2.1 = 0
    · rw [if_pos h0] at hc
      exact Or.inl ⟨h30, Or.inl ⟨h0, gT_of hc rfl⟩⟩
    · rw [if_neg h0] at hc
      exact Or.inl ⟨h30, Or.inr ⟨h0, gT_of hc rfl⟩⟩
  · rw [if_neg h30] at hc
    cases hw : vwCl[q.2.2.1]? with
    | none => rw [hw] at hc; cases hc
    | some w =>
      rw [hw] at hc
      simp only [Bool.and_eq_true, decide_eq_true_eq] at hc
      obtain ⟨C, T, N⟩ := w
      obtain ⟨h1, h2⟩ := hc
      rw [ho, hp.2] at h2
      exact Or.inr ⟨h30, C, T, N, rfl, h1, gT_of h2 rfl⟩
theorem mMR_get {md i : Nat} {q : Nat × Nat × Nat × Nat × Nat × Nat × Nat × Nat × Nat} (hq : mMR.find? (fun q => q.1 == mOc md && q.2.1 == i) = some q) : mMchk q = true ∧ mOwn q.1 = mCn md ∧ q.2.1 = i := by
  have hm := List.mem_of_find?_eq_some hq
  have hp := List.find?_some hq
  simp only [Bool.and_eq_true, beq_iff_eq] at hp
  exact ⟨List.all_eq_true.mp mMR_ok q hm, by rw [hp.1]; rfl, hp.2⟩
theorem mFop_c (ty : FieldType) : (mFop true .null ty = 41 ∧ (ty = .int ∨ ty = .boolean)) ∨ (mFop true .null ty = 43 ∧ ty = .long) ∨ (mFop true .null ty = 42 ∧ mFop false .null ty = 46) := by
  cases ty <;> simp [mFop]
theorem mFop_d (ty : FieldType) : (mFop false .null ty = 44 ∧ ty = .int) ∨ (mFop false .null ty = 45 ∧ ty = .boolean) ∨ (mFop false .null ty = 47 ∧ ty = .long) ∨ mFop false .null ty = 46 := by
  cases ty <;> simp [mFop]
theorem mRop_c (md : Nat) : (mRop md = 70 ∧ mRt md = none ∧ mAl md = (0, 0)) ∨ (mRop md = 71 ∧ mRt md = none) ∨ (mRop md = 66 ∧ mRt md = some .int) ∨ (mRop md = 67 ∧ mRt md = some .boolean) ∨ (mRop md = 68 ∧ mRt md = some .char) ∨ (mRop md = 69 ∧ mRt md = some .byte) ∨ mRop md = 99 := by
  unfold mRop
  cases h : mRt md with
  | none =>
    by_cases h0 : mAl md = (0, 0)
    · simp [h0]
    · simp [h0]
  | some ty => cases ty <;> simp
section MS
variable {B : mBd} {cap n0 : Nat × Nat} {p : Program} {l : Launch} {e : Env} {R : Room} {s : State} {m : MethodId} {args : Array Value} {below : List Frame} {meth : Method} {c : Code} {Qk : State → Prop}
variable {md : Nat} {cal : mCal} {Qm : mPost}
def mRetI (B : mBd) (md : Nat) (cap n0 : Nat × Nat) (p : Program) (l : Launch) (e : Env) (R : Room) (s : State) (m : MethodId) (args : Array Value) (below : List Frame) (meth : Method) (c : Code) (Qk : State → Prop) (Qm : mPost) : Prop := ∀ (ty : FieldType) (x : Int32) (τ : mS) (H : Heap) (locs : List Loc) (cells slots : Nat) (ls : Array Slot) (pc : Nat), mRt md = some ty → narrow ty (.int x) = .int x → decode (mBy md) pc = .ok (.ireturn, 1) → Qm (some (.int x)) τ → mDy B τ H → va_S (bA B) s.heap H locs → mBud cap n0 R τ cells slots → W p l e R s m args below meth c H locs cells slots Qk (F0 m pc ls [.int x])
def mRetV (B : mBd) (md : Nat) (cap n0 : Nat × Nat) (p : Program) (l : Launch) (e : Env) (R : Room) (s : State) (m : MethodId) (args : Array Value) (below : List Frame) (meth : Method) (c : Code) (Qk : State → Prop) (Qm : mPost) : Prop := ∀ (τ : mS) (H : Heap) (locs : List Loc) (cells slots : Nat) (ls : Array Slot) (pc : Nat), mRt md = none → decode (mBy md) pc = .ok (.return_, 1) → Qm none τ → mDy B τ H → va_S (bA B) s.heap H locs → mBud cap n0 R τ cells slots → (mAl md ≠ (0, 0) → τ.2.2.2.length = cap.1 ∧ mSum τ.2.2.2 = cap.2) → W p l e R s m args below meth c H locs cells slots Qk (F0 m pc ls [])
set_option maxHeartbeats 8000000 in
set_option maxRecDepth 20000 in
theorem mStep (F : mFx B md p s m args meth c) (hR : 1 ≤ R.frames ∧ 100 ≤ R.locals) (hC : ∀ md2 av σ2 Q2, 0 < md2 → md2 < mTl.length → md2 ≠ 2 → cal md2 av σ2 Q2 → mCok B l R md2 av σ2 Q2) (hI : mRetI B md cap n0 p l e R s m args below meth c Qk Qm) (hV : mRetV B md cap n0 p l e R s m args below meth c Qk Qm) (pc : Nat) (lv st : List Value) (σ : mS) (h : mF cal (bX B) cap md Qm (mGo B cap n0 p l e R s m args below meth c (mML md) Qk) pc lv st σ) : (mGo B cap n0 p l e R s m args below meth c (mML md) Qk) pc lv st σ := by
  obtain ⟨en, hat, o, ho, h⟩ := h
  unfold mAt at hat
  cases hdec : decode (mBy md) pc with
  | error x => rw [hdec] at hat; cases hat
  | ok w =>
  obtain ⟨ins, len⟩ := w
  rw [hdec] at hat
  dsimp only at hat
  cases ins
  case iconst n =>
    obtain ⟨hl, rfl⟩ := mIf_ok hat
    obtain rfl : len = 1 := by simpa using hl
    obtain rfl : o = o_push := Option.some.inj (ho.symm.trans mo_at_push)
    exact s_iconst F hdec h
  case bipush n =>
    obtain ⟨hl, rfl⟩ := mIf_ok hat
    obtain rfl : len = 2 := by simpa using hl
    obtain rfl : o = o_push := Option.some.inj (ho.symm.trans mo_at_push)
    exact s_bipush F hdec h
  case sipush n =>
    obtain ⟨hl, rfl⟩ := mIf_ok hat
    obtain rfl : len = 3 := by simpa using hl
    obtain rfl : o = o_push := Option.some.inj (ho.symm.trans mo_at_push)
    exact s_sipush F hdec h
  case lconst n =>
    obtain ⟨hl, rfl⟩ := mIf_ok hat
    obtain rfl : len = 1 := by simpa using hl
    obtain rfl : o = o_push := Option.some.inj (ho.symm.trans mo_at_push)
    exact s_lconst F hdec h
  case ldc n =>
    obtain ⟨q, hq, hat⟩ := Option.bind_eq_some_iff.mp hat
    obtain ⟨k1, k2, k3⟩ := mKS_ok q (List.mem_of_find?_eq_some hq)
    have hp := List.find?_some hq
    simp only [Bool.and_eq_true, beq_iff_eq] at hp
    rw [hp.2] at k2
    have ko : mCn md = "TicketsDrawn$Tokens" := by rw [← k3, hp.1]; rfl
    obtain ⟨hl, rfl⟩ := mIf_ok hat
    obtain rfl : len = 2 := by simpa using hl
    obtain rfl : o = o_push := Option.some.inj (ho.symm.trans mo_at_push)
    exact s_ldc F hdec k1 k2 ko h
  case ldc_w n =>
    obtain ⟨q, hq, hat⟩ := Option.bind_eq_some_iff.mp hat
    have k1 := mKI_ok q (List.mem_of_find?_eq_some hq)
    have hp := List.find?_some hq
    simp only [Bool.and_eq_true, beq_iff_eq] at hp
    rw [hp.1, hp.2] at k1
    obtain ⟨hl, rfl⟩ := mIf_ok hat
    obtain rfl : len = 3 := by simpa using hl
    obtain rfl : o = o_push := Option.some.inj (ho.symm.trans mo_at_push)
    exact s_ldcw F hdec (gT_of k1 rfl) h
  case ldc2_w n =>
    obtain ⟨q, hq, hat⟩ := Option.bind_eq_some_iff.mp hat
    have k1 := mKL_ok q (List.mem_of_find?_eq_some hq)
    have hp := List.find?_some hq
    simp only [Bool.and_eq_true, beq_iff_eq] at hp
    rw [hp.1, hp.2] at k1
    obtain ⟨hl, rfl⟩ := mIf_ok hat
    obtain rfl : len = 3 := by simpa using hl
    obtain rfl : o = o_push := Option.some.inj (ho.symm.trans mo_at_push)
    exact s_ldc2 F hdec (gT_of k1 rfl) h
  case getstatic n =>
    obtain ⟨q, hq, hat⟩ := Option.bind_eq_some_iff.mp hat
    have k1 := mKG_ok q (List.mem_of_find?_eq_some hq)
    have hp := List.find?_some hq
    simp only [Bool.and_eq_true, beq_iff_eq] at hp
    rw [hp.1, hp.2] at k1
    obtain ⟨hl, rfl⟩ := mIf_ok hat
    obtain rfl : len = 3 := by simpa using hl
    obtain rfl : o = o_push := Option.some.inj (ho.symm.trans mo_at_push)
    dsimp only at h
    rcases k1 with ⟨k0, k1⟩ | ⟨k0, k1⟩ | ⟨k0, k1⟩
    · rw [k0] at h
      exact s_gsF F hdec (List.mem_filter.mpr ⟨List.mem_of_getElem? k1, rfl⟩) h
    · rw [k0] at h
      exact s_gsC F hdec (gT_of k1 rfl) h
    · rw [k0] at h
      exact s_gsM F hdec (gT_of k1 rfl) h
  case iload n =>
    obtain ⟨hl, rfl⟩ := mIf_ok hat
    obtain rfl : len = 2 := by simpa using hl
    obtain rfl : o = o_iload := Option.some.inj (ho.symm.trans mo_at_iload)
    exact s_iload F hdec h
  case iload_n n =>
    obtain ⟨hl, rfl⟩ := mIf_ok hat
    obtain rfl : len = 1 := by simpa using hl
    obtain rfl : o = o_iload := Option.some.inj (ho.symm.trans mo_at_iload)
    exact s_iload_n F hdec h
  case aload n =>
    obtain ⟨hl, rfl⟩ := mIf_ok hat
    obtain rfl : len = 2 := by simpa using hl
    obtain rfl : o = o_aload := Option.some.inj (ho.symm.trans mo_at_aload)
    exact s_aload F hdec h
  case aload_n n =>
    obtain ⟨hl, rfl⟩ := mIf_ok hat
    obtain rfl : len = 1 := by simpa using hl
    obtain rfl : o = o_aload := Option.some.inj (ho.symm.trans mo_at_aload)
    exact s_aload_n F hdec h
  case lload n =>
    obtain ⟨hl, rfl⟩ := mIf_ok hat
    obtain rfl : len = 2 := by simpa using hl
    obtain rfl : o = o_lload := Option.some.inj (ho.symm.trans mo_at_lload)
    exact s_lload F hdec h
  case lload_n n =>
    obtain ⟨hl, rfl⟩ := mIf_ok hat
    obtain rfl : len = 1 := by simpa using hl
    obtain rfl : o = o_lload := Option.some.inj (ho.symm.trans mo_at_lload)
    exact s_lload_n F hdec h
  case istore n =>
    obtain ⟨hl, rfl⟩ := mIf_ok hat
    obtain rfl : len = 2 := by simpa using hl
    obtain rfl : o = o_istore := Option.some.inj (ho.symm.trans mo_at_istore)
    exact s_istore F hdec h
  case istore_n n =>
    obtain ⟨hl, rfl⟩ := mIf_ok hat
    obtain rfl : len = 1 := by simpa using hl
    obtain rfl : o = o_istore := Option.some.inj (ho.symm.trans mo_at_istore)
    exact s_istore_n F hdec h
  case astore n =>
    obtain ⟨hl, rfl⟩ := mIf_ok hat
    obtain rfl : len = 2 := by simpa using hl
    obtain rfl : o = o_astore := Option.some.inj (ho.symm.trans mo_at_astore)
    exact s_astore F hdec h
  case astore_n n =>
    obtain ⟨hl, rfl⟩ := mIf_ok hat
    obtain rfl : len = 1 := by simpa using hl
    obtain rfl : o = o_astore := Option.some.inj (ho.symm.trans mo_at_astore)
    exact s_astore_n F hdec h
  case iinc n k =>
    obtain ⟨hl, rfl⟩ := mIf_ok hat
    obtain rfl : len = 3 := by simpa using hl
    obtain rfl : o = o_iinc := Option.some.inj (ho.symm.trans mo_at_iinc)
    exact s_iinc F hdec h
  case iadd =>
    obtain ⟨hl, rfl⟩ := mIf_ok hat
    obtain rfl : len = 1 := by simpa using hl
    obtain rfl : o = o_iadd := Option.some.inj (ho.symm.trans mo_at_iadd)
    exact s_iadd F hdec h
  case isub =>
    obtain ⟨hl, rfl⟩ := mIf_ok hat
    obtain rfl : len = 1 := by simpa using hl
    obtain rfl : o = o_isub := Option.some.inj (ho.symm.trans mo_at_isub)
    exact s_isub F hdec h
  case imul =>
    obtain ⟨hl, rfl⟩ := mIf_ok hat
    obtain rfl : len = 1 := by simpa using hl
    obtain rfl : o = o_imul := Option.some.inj (ho.symm.trans mo_at_imul)
    exact s_imul F hdec h
  case idiv =>
    obtain ⟨hl, rfl⟩ := mIf_ok hat
    obtain rfl : len = 1 := by simpa using hl
    obtain rfl : o = o_idiv := Option.some.inj (ho.symm.trans mo_at_idiv)
    exact s_idiv F hdec h
  case irem =>
    obtain ⟨hl, rfl⟩ := mIf_ok hat
    obtain rfl : len = 1 := by simpa using hl
    obtain rfl : o = o_irem := Option.some.inj (ho.symm.trans mo_at_irem)
    exact s_irem F hdec h
  case iand =>
    obtain ⟨hl, rfl⟩ := mIf_ok hat
    obtain rfl : len = 1 := by simpa using hl
    obtain rfl : o = o_iand := Option.some.inj (ho.symm.trans mo_at_iand)
    exact s_iand F hdec h
  case ior =>
    obtain ⟨hl, rfl⟩ := mIf_ok hat
    obtain rfl : len = 1 := by simpa using hl
    obtain rfl : o = o_ior := Option.some.inj (ho.symm.trans mo_at_ior)
    exact s_ior F hdec h
  case ixor =>
    obtain ⟨hl, rfl⟩ := mIf_ok hat
    obtain rfl : len = 1 := by simpa using hl
    obtain rfl : o = o_ixor := Option.some.inj (ho.symm.trans mo_at_ixor)
    exact s_ixor F hdec h
  case ishl =>
    obtain ⟨hl, rfl⟩ := mIf_ok hat
    obtain rfl : len = 1 := by simpa using hl
    obtain rfl : o = o_ishl := Option.some.inj (ho.symm.trans mo_at_ishl)
    exact s_ishl F hdec h
  case ishr =>
    obtain ⟨hl, rfl⟩ := mIf_ok hat
    obtain rfl : len = 1 := by simpa using hl
    obtain rfl : o = o_ishr := Option.some.inj (ho.symm.trans mo_at_ishr)
    exact s_ishr F hdec h
  case iushr =>
    obtain ⟨hl, rfl⟩ := mIf_ok hat
    obtain rfl : len = 1 := by simpa using hl
    obtain rfl : o = o_iushr := Option.some.inj (ho.symm.trans mo_at_iushr)
    exact s_iushr F hdec h
  case i2b =>
    obtain ⟨hl, rfl⟩ := mIf_ok hat
    obtain rfl : len = 1 := by simpa using hl
    obtain rfl : o = o_i2b := Option.some.inj (ho.symm.trans mo_at_i2b)
    exact s_i2b F hdec h
  case i2c =>
    obtain ⟨hl, rfl⟩ := mIf_ok hat
    obtain rfl : len = 1 := by simpa using hl
    obtain rfl : o = o_i2c := Option.some.inj (ho.symm.trans mo_at_i2c)
    exact s_i2c F hdec h
  case i2l =>
    obtain ⟨hl, rfl⟩ := mIf_ok hat
    obtain rfl : len = 1 := by simpa using hl
    obtain rfl : o = o_i2l := Option.some.inj (ho.symm.trans mo_at_i2l)
    exact s_i2l F hdec h
  case lor =>
    obtain ⟨hl, rfl⟩ := mIf_ok hat
    obtain rfl : len = 1 := by simpa using hl
    obtain rfl : o = o_lor := Option.some.inj (ho.symm.trans mo_at_lor)
    exact s_lor F hdec h
  case lshl =>
    obtain ⟨hl, rfl⟩ := mIf_ok hat
    obtain rfl : len = 1 := by simpa using hl
    obtain rfl : o = o_lshl := Option.some.inj (ho.symm.trans mo_at_lshl)
    exact s_lshl F hdec h
  case lcmp =>
    obtain ⟨hl, rfl⟩ := mIf_ok hat
    obtain rfl : len = 1 := by simpa using hl
    obtain rfl : o = o_lcmp := Option.some.inj (ho.symm.trans mo_at_lcmp)
    exact s_lcmp F hdec h
  case dup =>
    obtain ⟨hl, rfl⟩ := mIf_ok hat
    obtain rfl : len = 1 := by simpa using hl
    obtain rfl : o = o_dup := Option.some.inj (ho.symm.trans mo_at_dup)
    exact s_dup F hdec h
  case pop =>
    obtain ⟨hl, rfl⟩ := mIf_ok hat
    obtain rfl : len = 1 := by simpa using hl
    obtain rfl : o = o_pop := Option.some.inj (ho.symm.trans mo_at_pop)
    exact s_pop F hdec h
  case dup2 =>
    obtain ⟨hl, rfl⟩ := mIf_ok hat
    obtain rfl : len = 1 := by simpa using hl
    obtain rfl : o = o_dup2 := Option.some.inj (ho.symm.trans mo_at_dup2)
    exact s_dup2 F hdec h
  case goto f =>
    obtain ⟨t, hq, hat⟩ := Option.bind_eq_some_iff.mp hat
    obtain ⟨hl, rfl⟩ := mIf_ok hat
    obtain rfl : len = 3 := by simpa using hl
    obtain rfl : o = o_goto := Option.some.inj (ho.symm.trans mo_at_goto)
    exact s_goto F hdec (mTg_ok hq) h
  case ifCond cnd f =>
    cases cnd
    case eq =>
      obtain ⟨t, hq, hat⟩ := Option.bind_eq_some_iff.mp hat
      obtain ⟨hl, rfl⟩ := mIf_ok hat
      obtain rfl : len = 3 := by simpa using hl
      obtain rfl : o = o_ifeq := Option.some.inj (ho.symm.trans mo_at_ifeq)
      exact s_ifeq F hdec (mTg_ok hq) h
    case ne =>
      obtain ⟨t, hq, hat⟩ := Option.bind_eq_some_iff.mp hat
      obtain ⟨hl, rfl⟩ := mIf_ok hat
      obtain rfl : len = 3 := by simpa using hl
      obtain rfl : o = o_ifne := Option.some.inj (ho.symm.trans mo_at_ifne)
      exact s_ifne F hdec (mTg_ok hq) h
    case lt =>
      obtain ⟨t, hq, hat⟩ := Option.bind_eq_some_iff.mp hat
      obtain ⟨hl, rfl⟩ := mIf_ok hat
      obtain rfl : len = 3 := by simpa using hl
      obtain rfl : o = o_iflt := Option.some.inj (ho.symm.trans mo_at_iflt)
      exact s_iflt F hdec (mTg_ok hq) h
    case ge =>
      obtain ⟨t, hq, hat⟩ := Option.bind_eq_some_iff.mp hat
      obtain ⟨hl, rfl⟩ := mIf_ok hat
      obtain rfl : len = 3 := by simpa using hl
      obtain rfl : o = o_ifge := Option.some.inj (ho.symm.trans mo_at_ifge)
      exact s_ifge F hdec (mTg_ok hq) h
    case gt =>
      obtain ⟨t, hq, hat⟩ := Option.bind_eq_some_iff.mp hat
      obtain ⟨hl, rfl⟩ := mIf_ok hat
      obtain rfl : len = 3 := by simpa using hl
      obtain rfl : o = o_ifgt := Option.some.inj (ho.symm.trans mo_at_ifgt)
      exact s_ifgt F hdec (mTg_ok hq) h
    case le =>
      obtain ⟨t, hq, hat⟩ := Option.bind_eq_some_iff.mp hat
      obtain ⟨hl, rfl⟩ := mIf_ok hat
      obtain rfl : len = 3 := by simpa using hl
      obtain rfl : o = o_ifle := Option.some.inj (ho.symm.trans mo_at_ifle)
      exact s_ifle F hdec (mTg_ok hq) h
  case if_icmp cnd f =>
    cases cnd
    case eq =>
      obtain ⟨t, hq, hat⟩ := Option.bind_eq_some_iff.mp hat
      obtain ⟨hl, rfl⟩ := mIf_ok hat
      obtain rfl : len = 3 := by simpa using hl
      obtain rfl : o = o_iceq := Option.some.inj (ho.symm.trans mo_at_iceq)
      exact s_iceq F hdec (mTg_ok hq) h
    case ne =>
      obtain ⟨t, hq, hat⟩ := Option.bind_eq_some_iff.mp hat
      obtain ⟨hl, rfl⟩ := mIf_ok hat
      obtain rfl : len = 3 := by simpa using hl
      obtain rfl : o = o_icne := Option.some.inj (ho.symm.trans mo_at_icne)
      exact s_icne F hdec (mTg_ok hq) h
    case lt =>
      obtain ⟨t, hq, hat⟩ := Option.bind_eq_some_iff.mp hat
      obtain ⟨hl, rfl⟩ := mIf_ok hat
      obtain rfl : len = 3 := by simpa using hl
      obtain rfl : o = o_iclt := Option.some.inj (ho.symm.trans mo_at_iclt)
      exact s_iclt F hdec (mTg_ok hq) h
    case ge =>
      obtain ⟨t, hq, hat⟩ := Option.bind_eq_some_iff.mp hat
      obtain ⟨hl, rfl⟩ := mIf_ok hat
      obtain rfl : len = 3 := by simpa using hl
      obtain rfl : o = o_icge := Option.some.inj (ho.symm.trans mo_at_icge)
      exact s_icge F hdec (mTg_ok hq) h
    case gt =>
      obtain ⟨t, hq, hat⟩ := Option.bind_eq_some_iff.mp hat
      obtain ⟨hl, rfl⟩ := mIf_ok hat
      obtain rfl : len = 3 := by simpa using hl
      obtain rfl : o = o_icgt := Option.some.inj (ho.symm.trans mo_at_icgt)
      exact s_icgt F hdec (mTg_ok hq) h
    case le =>
      obtain ⟨t, hq, hat⟩ := Option.bind_eq_some_iff.mp hat
      obtain ⟨hl, rfl⟩ := mIf_ok hat
      obtain rfl : len = 3 := by simpa using hl
      obtain rfl : o = o_icle := Option.some.inj (ho.symm.trans mo_at_icle)
      exact s_icle F hdec (mTg_ok hq) h
  case tableswitch d lo hi os =>
    obtain ⟨t, ht, hat⟩ := Option.bind_eq_some_iff.mp hat
    obtain ⟨l9, hl9, hat⟩ := Option.bind_eq_some_iff.mp hat
    obtain ⟨hl, rfl⟩ := mIf_ok hat
    simp only [Bool.and_eq_true, decide_eq_true_eq] at hl
    obtain rfl : o = o_switch := Option.some.inj (ho.symm.trans mo_at_switch)
    exact s_tsw F hdec ht hl9 hl.1.1 hl.1.2 hl.2 h
  case lookupswitch d ps =>
    obtain ⟨t, ht, hat⟩ := Option.bind_eq_some_iff.mp hat
    obtain ⟨l9, hl9, hat⟩ := Option.bind_eq_some_iff.mp hat
    obtain ⟨hl, rfl⟩ := mIf_ok hat
    obtain ⟨hl1, hl2⟩ := (Bool.and_eq_true _ _).mp hl
    obtain rfl : o = o_switch := Option.some.inj (ho.symm.trans mo_at_switch)
    exact s_lsw F hdec ht hl9 hl1 (fun q hq => by have := List.all_eq_true.mp hl2 q hq; simpa using this) h
  case getfield n =>
    obtain ⟨q, hq, hat⟩ := Option.bind_eq_some_iff.mp hat
    rcases mFR_get hq with ⟨h30, k1⟩ | ⟨h30, C, T, N, k1, k2, k3⟩
    · rw [if_pos h30] at hat
      obtain ⟨hl, rfl⟩ := mIf_ok hat
      obtain rfl : len = 3 := by simpa using hl
      rcases k1 with ⟨k0, k1⟩ | ⟨k0, k1⟩
      · dsimp only at ho
        rw [if_pos k0] at ho
        obtain rfl : o = o_strV := Option.some.inj (ho.symm.trans mo_at_strV)
        exact s_strV F hdec k1 h
      · dsimp only at ho
        rw [if_neg k0] at ho
        obtain rfl : o = o_strC := Option.some.inj (ho.symm.trans mo_at_strC)
        exact s_strC F hdec k1 h
    · rw [if_neg h30] at hat
      obtain ⟨hl, rfl⟩ := mIf_ok hat
      obtain rfl : len = 3 := by simpa using hl
      dsimp only at ho h
      rcases mFop_c (mTy q.2.2.1 q.2.2.2.1) with ⟨f1, f2⟩ | ⟨f1, f2⟩ | ⟨f1, f2⟩
      · rw [f1] at ho
        obtain rfl : o = o_getI := Option.some.inj (ho.symm.trans mo_at_getI)
        exact s_getI F hdec k1 k2 k3 f2 h
      · rw [f1] at ho
        obtain rfl : o = o_getL := Option.some.inj (ho.symm.trans mo_at_getL)
        exact s_getL F hdec k1 k2 k3 f2 h
      · rw [f1] at ho
        obtain rfl : o = o_getR := Option.some.inj (ho.symm.trans mo_at_getR)
        exact s_getR F hdec k1 k2 k3 f2 h
  case putfield n =>
    obtain ⟨q, hq, hat⟩ := Option.bind_eq_some_iff.mp hat
    rcases mFR_get hq with ⟨h30, k1⟩ | ⟨h30, C, T, N, k1, k2, k3⟩
    · rw [if_pos h30] at hat
      cases hat
    · rw [if_neg h30] at hat
      obtain ⟨hl, rfl⟩ := mIf_ok hat
      obtain ⟨hl1, hl2⟩ := (Bool.and_eq_true _ _).mp hl
      obtain rfl : len = 3 := by simpa using hl1
      dsimp only at ho h
      rcases mFop_d (mTy q.2.2.1 q.2.2.2.1) with ⟨f1, f2⟩ | ⟨f1, f2⟩ | ⟨f1, f2⟩ | f1
      · rw [f1] at ho
        obtain rfl : o = o_putI := Option.some.inj (ho.symm.trans mo_at_putI)
        exact s_putI F hdec k1 k2 k3 f2 h
      · rw [f1] at ho
        obtain rfl : o = o_putZ := Option.some.inj (ho.symm.trans mo_at_putZ)
        exact s_putZ F hdec k1 k2 k3 f2 h
      · rw [f1] at ho
        obtain rfl : o = o_putL := Option.some.inj (ho.symm.trans mo_at_putL)
        exact s_putL F hdec k1 k2 k3 f2 h
      · rw [f1] at ho hl2
        obtain rfl : o = o_putR := Option.some.inj (ho.symm.trans mo_at_putR)
        simp at hl2
        exact s_putR F hdec k1 k2 k3 f1 hl2.1 hl2.2 h
  case iaload =>
    obtain ⟨hl, rfl⟩ := mIf_ok hat
    obtain rfl : len = 1 := by simpa using hl
    obtain rfl : o = o_iald := Option.some.inj (ho.symm.trans mo_at_iald)
    exact s_iald F hdec h
  case baload =>
    obtain ⟨hl, rfl⟩ := mIf_ok hat
    obtain rfl : len = 1 := by simpa using hl
    obtain rfl : o = o_bald := Option.some.inj (ho.symm.trans mo_at_bald)
    exact s_bald F hdec h
  case aaload =>
    obtain ⟨hl, rfl⟩ := mIf_ok hat
    obtain rfl : len = 1 := by simpa using hl
    obtain rfl : o = o_aald := Option.some.inj (ho.symm.trans mo_at_aald)
    exact s_aald F hdec h
  case iastore =>
    obtain ⟨hl, rfl⟩ := mIf_ok hat
    obtain rfl : len = 1 := by simpa using hl
    obtain rfl : o = o_iast := Option.some.inj (ho.symm.trans mo_at_iast)
    exact s_iast F hdec h
  case bastore =>
    obtain ⟨hl, rfl⟩ := mIf_ok hat
    obtain rfl : len = 1 := by simpa using hl
    obtain rfl : o = o_bast := Option.some.inj (ho.symm.trans mo_at_bast)
    exact s_bast F hdec h
  case aastore =>
    obtain ⟨hl, rfl⟩ := mIf_ok hat
    obtain rfl : len = 1 := by simpa using hl
    obtain rfl : o = o_aast := Option.some.inj (ho.symm.trans mo_at_aast)
    exact s_aast F hdec h
  case arraylength =>
    obtain ⟨hl, rfl⟩ := mIf_ok hat
    obtain rfl : len = 1 := by simpa using hl
    obtain rfl : o = o_alen := Option.some.inj (ho.symm.trans mo_at_alen)
    exact s_alen F hdec h
  case new n =>
    obtain ⟨q, hq, hat⟩ := Option.bind_eq_some_iff.mp hat
    have k0 := List.all_eq_true.mp mKC_ok q (List.mem_of_find?_eq_some hq)
    have hp := List.find?_some hq
    simp only [Bool.and_eq_true, beq_iff_eq] at hp
    unfold mKchk at k0
    cases hw : vwCl[q.2.2.1]? with
    | none => rw [hw] at k0; cases k0
    | some w =>
      obtain ⟨C, T, N⟩ := w
      rw [hw] at k0
      simp only [Bool.and_eq_true, decide_eq_true_eq] at k0
      obtain ⟨k1, k2⟩ := k0
      rw [hp.1, hp.2] at k2
      obtain ⟨hl, rfl⟩ := mIf_ok hat
      obtain rfl : len = 3 := by simpa using hl
      obtain rfl : o = o_new := Option.some.inj (ho.symm.trans mo_at_new)
      dsimp only at h
      rw [k1] at h
      exact s_new F hdec hw (gT_of k2 rfl) h
  case newarray t =>
    obtain ⟨k, hk, hat⟩ := Option.bind_eq_some_iff.mp hat
    obtain ⟨hl, rfl⟩ := mIf_ok hat
    obtain rfl : len = 2 := by simpa using hl
    obtain rfl : o = o_newa := Option.some.inj (ho.symm.trans mo_at_newa)
    refine s_newa F hdec ?_ h
    cases t <;> first | (cases hk; exact Or.inl ⟨rfl, rfl⟩) | (cases hk; exact Or.inr (Or.inl ⟨rfl, rfl⟩)) | (cases hk; exact Or.inr (Or.inr ⟨rfl, rfl⟩)) | cases hk
  case anewarray n =>
    obtain ⟨hl, rfl⟩ := mIf_ok hat
    simp only [Bool.and_eq_true, beq_iff_eq] at hl
    obtain ⟨⟨rfl, hl2⟩, rfl⟩ := hl
    obtain rfl : o = o_newa := Option.some.inj (ho.symm.trans mo_at_newa)
    exact s_newq F hdec (by rw [show mCn md = "TicketsDrawn" by unfold mCn; rw [hl2]; rfl]; exact gT_of (i := 79) (by decide +kernel) rfl) h
  case multianewarray n k =>
    obtain ⟨hl, rfl⟩ := mIf_ok hat
    simp only [Bool.and_eq_true, beq_iff_eq, Bool.or_eq_true] at hl
    obtain ⟨⟨rfl, rfl⟩, hl2⟩ := hl
    obtain rfl : o = o_mna := Option.some.inj (ho.symm.trans mo_at_mna)
    rcases hl2 with ⟨hl2, rfl⟩ | ⟨hl2, rfl⟩
    · exact s_mna F hdec (by rw [show mCn md = "TicketsDrawn$Hall" by unfold mCn; rw [hl2]; rfl]; exact gT_of (i := 149) (by decide +kernel) rfl) h
    · exact s_mna F hdec (by rw [show mCn md = "TicketsDrawn$Trial" by unfold mCn; rw [hl2]; rfl]; exact gT_of (i := 289) (by decide +kernel) rfl) h
  case invokevirtual n =>
    obtain ⟨q, hq, hat⟩ := Option.bind_eq_some_iff.mp hat
    obtain ⟨k1, k2, k3⟩ := mMR_get hq
    have k4 := k1
    unfold mMchk at k4
    by_cases c0 : q.2.2.1 = 0
    · rw [if_pos c0] at hat
      obtain ⟨hl, rfl⟩ := mIf_ok hat
      obtain rfl : len = 3 := by simpa using hl
      obtain rfl : o = o_callV := Option.some.inj (ho.symm.trans mo_at_callV)
      simp only [c0, if_true, Bool.and_eq_true, decide_eq_true_eq, k2, k3] at k4
      obtain ⟨⟨⟨⟨⟨⟨⟨⟨⟨g0, g1⟩, g2⟩, g3⟩, g4⟩, g5⟩, g6⟩, g7⟩, g8⟩, g9⟩ := k4
      exact s_callV F hdec g1 g2 g0 (gT_of g5 rfl) (gT_of g6 rfl) (gT_of g7 rfl) (gT_of g3 rfl) g4 g8 g9 (fun av Q2 => hC _ av σ Q2 g1 g2 g0) h
    · rw [if_neg c0] at hat
      by_cases c6 : q.2.2.1 = 6
      · rw [if_pos c6] at hat
        obtain ⟨hl, rfl⟩ := mIf_ok hat
        obtain rfl : len = 3 := by simpa using hl
        obtain rfl : o = o_callT := Option.some.inj (ho.symm.trans mo_at_callT)
        simp only [c6, Bool.and_eq_true, decide_eq_true_eq, k2, k3] at k4
        simp at k4
        obtain ⟨⟨⟨⟨⟨⟨⟨⟨⟨g0, g1⟩, g2⟩, g3⟩, g4⟩, g5⟩, g6⟩, g7⟩, g8⟩, g9⟩ := k4
        exact s_callT F hdec g1 g2 g0 (gT_of g5 rfl) (gT_of g6 rfl) (gT_of g7 rfl) (gT_of g3 rfl) (by simpa using g4) g8 g9 (fun av Q2 => hC _ av σ Q2 g1 g2 g0) h
      · rw [if_neg c6] at hat
        cases hat
  case invokestatic n =>
    obtain ⟨q, hq, hat⟩ := Option.bind_eq_some_iff.mp hat
    obtain ⟨k1, k2, k3⟩ := mMR_get hq
    have k4 := k1
    unfold mMchk at k4
    by_cases c1 : q.2.2.1 = 1
    · rw [if_pos c1] at hat
      obtain ⟨hl, rfl⟩ := mIf_ok hat
      obtain rfl : len = 3 := by simpa using hl
      obtain rfl : o = o_callS := Option.some.inj (ho.symm.trans mo_at_callS)
      simp only [c1, Bool.and_eq_true, decide_eq_true_eq, k2, k3] at k4
      simp at k4
      obtain ⟨⟨⟨⟨⟨⟨⟨g0, g1⟩, g2⟩, g3⟩, g4⟩, g5⟩, g6⟩, g7⟩ := k4
      exact s_callS F hdec g1 g2 g0 (gT_of g5 rfl) (gT_of g6 rfl) (gT_of g3 rfl) (by simpa using g4) g7 (fun av Q2 => hC _ av σ Q2 g1 g2 g0) h
    · rw [if_neg c1] at hat
      by_cases c5 : q.2.2.1 = 5
      · rw [if_pos c5] at hat
        obtain ⟨hl, rfl⟩ := mIf_ok hat
        obtain rfl : len = 3 := by simpa using hl
        obtain rfl : o = o_acopy := Option.some.inj (ho.symm.trans mo_at_acopy)
        simp only [c5, k2, k3] at k4
        simp at k4
        exact s_acopy F hR hdec (gT_of k4 rfl) h
      · rw [if_neg c5] at hat
        cases hat
  case invokespecial n =>
    obtain ⟨q, hq, hat⟩ := Option.bind_eq_some_iff.mp hat
    obtain ⟨k1, k2, k3⟩ := mMR_get hq
    have k4 := k1
    unfold mMchk at k4
    by_cases c2 : q.2.2.1 = 2 ∨ q.2.2.1 = 3
    · rw [if_pos c2] at hat
      obtain ⟨hl, rfl⟩ := mIf_ok hat
      obtain rfl : len = 3 := by simpa using hl
      obtain rfl : o = o_callI := Option.some.inj (ho.symm.trans mo_at_callI)
      rcases c2 with c2 | c2
      · simp only [c2, Bool.and_eq_true, decide_eq_true_eq, k2, k3] at k4
        simp at k4
        obtain ⟨⟨⟨⟨⟨⟨⟨g0, g1⟩, g2⟩, g3⟩, g4⟩, g5⟩, g6⟩, g7⟩ := k4
        exact s_callI F hdec g1 g2 g0 (Or.inl (gT_of g5 rfl)) (gT_of g6 rfl) (gT_of g3 rfl) (by simpa using g4) g7 (mInit_v g7 g2) (fun av Q2 => hC _ av σ Q2 g1 g2 g0) h
      · simp only [c2, Bool.and_eq_true, decide_eq_true_eq, k2, k3] at k4
        simp at k4
        obtain ⟨⟨⟨⟨⟨⟨⟨g0, g1⟩, g2⟩, g3⟩, g4⟩, g5⟩, g6⟩, g7⟩ := k4
        exact s_callI F hdec g1 g2 g0 (Or.inr (List.mem_filter.mpr ⟨List.mem_of_getElem? g5, rfl⟩)) (gT_of g6 rfl) (gT_of g3 rfl) (by simpa using g4) g7 (mInit_v g7 g2) (fun av Q2 => hC _ av σ Q2 g1 g2 g0) h
    · rw [if_neg c2] at hat
      by_cases c4 : q.2.2.1 = 4
      · rw [if_pos c4] at hat
        obtain ⟨hl, rfl⟩ := mIf_ok hat
        obtain rfl : len = 3 := by simpa using hl
        obtain rfl : o = o_objI := Option.some.inj (ho.symm.trans mo_at_objI)
        simp only [c4, k2, k3] at k4
        simp at k4
        exact s_objI F hR hdec (gT_of k4 rfl) h
      · rw [if_neg c4] at hat
        cases hat
  case ireturn =>
    obtain ⟨hl, rfl⟩ := mIf_ok hat
    simp only [Bool.and_eq_true, bne_iff_ne, ne_eq, beq_iff_eq] at hl
    obtain ⟨⟨rfl, hl2⟩, hl3⟩ := hl
    dsimp only at ho
    rcases mRop_c md with ⟨r1, r2, -⟩ | ⟨r1, r2⟩ | ⟨r1, r2⟩ | ⟨r1, r2⟩ | ⟨r1, r2⟩ | ⟨r1, r2⟩ | r1
    · exact absurd r1 hl2
    · exact absurd r1 hl3
    · rw [r1] at ho
      obtain rfl : o = o_iret := Option.some.inj (ho.symm.trans mo_at_iret)
      obtain ⟨x, rfl, hQ⟩ := h
      exact fun H locs cells slots ls hy hS hl hu => hI _ x σ H locs cells slots ls pc r2 rfl hdec hQ hy hS hu
    · rw [r1] at ho
      obtain rfl : o = o_zret := Option.some.inj (ho.symm.trans mo_at_zret)
      obtain ⟨x, rfl, gx, hQ⟩ := h
      exact fun H locs cells slots ls hy hS hl hu => hI _ x σ H locs cells slots ls pc r2 (by rcases gx with rfl | rfl <;> decide) hdec hQ hy hS hu
    · rw [r1] at ho
      obtain rfl : o = o_cret := Option.some.inj (ho.symm.trans mo_at_cret)
      obtain ⟨x, rfl, gx, hQ⟩ := h
      exact fun H locs cells slots ls hy hS hl hu => hI _ x σ H locs cells slots ls pc r2 gx hdec hQ hy hS hu
    · rw [r1] at ho
      obtain rfl : o = o_bret := Option.some.inj (ho.symm.trans mo_at_bret)
      obtain ⟨x, rfl, gx, hQ⟩ := h
      exact fun H locs cells slots ls hy hS hl hu => hI _ x σ H locs cells slots ls pc r2 gx hdec hQ hy hS hu
    · rw [r1] at ho
      cases ho
  case return_ =>
    obtain ⟨hl, rfl⟩ := mIf_ok hat
    simp only [Bool.and_eq_true, Bool.or_eq_true, beq_iff_eq] at hl
    obtain ⟨rfl, hl2⟩ := hl
    dsimp only at ho
    rcases mRop_c md with ⟨r1, r2, r3⟩ | ⟨r1, r2⟩ | ⟨r1, r2⟩ | ⟨r1, r2⟩ | ⟨r1, r2⟩ | ⟨r1, r2⟩ | r1
    · rw [r1] at ho
      obtain rfl : o = o_vret := Option.some.inj (ho.symm.trans mo_at_vret)
      obtain ⟨rfl, hQ⟩ := h
      exact fun H locs cells slots ls hy hS hl hu => hV σ H locs cells slots ls pc r2 hdec hQ hy hS hu (fun z => absurd r3 z)
    · rw [r1] at ho
      obtain rfl : o = o_vretC := Option.some.inj (ho.symm.trans mo_at_vretC)
      obtain ⟨rfl, hg, hQ⟩ := h
      exact fun H locs cells slots ls hy hS hl hu => hV σ H locs cells slots ls pc r2 hdec hQ hy hS hu (fun _ => hg)
    · rw [r1] at hl2; omega
    · rw [r1] at hl2; omega
    · rw [r1] at hl2; omega
    · rw [r1] at hl2; omega
    · rw [r1] at hl2; omega
  all_goals cases hat
end MS

/-! THE TABLES are true: each entry by its places among the words -/
def mOwn (o : Nat) : String := mCnl.getD o ""
theorem mKS_ok : ∀ q ∈ mKS, q.2.2.1 < 11 ∧ mSix.getD q.2.2.1 0 = q.2.1 ∧ mOwn q.1 = "TicketsDrawn$Tokens" := by decide +kernel
theorem mKI_ok : ∀ q ∈ mKI, lw_tbl[q.2.2.2]? = some (.constant (mOwn q.1) q.2.1 q.2.2.1) := by decide +kernel
theorem mKL_ok : ∀ q ∈ mKL, lw_tbl[q.2.2.2]? = some (.constantLong (mOwn q.1) q.2.1 q.2.2.1) := by decide +kernel
theorem mKG_ok : ∀ q ∈ mKG, (q.2.2.1 = 0 ∧ lw_tbl[q.2.2.2]? = some (.fieldLinkNest (mOwn q.1) q.2.1 "TicketsDrawn" "FACTORIALS" "[I" "TicketsDrawn")) ∨ (q.2.2.1 = 2 ∧ lw_tbl[q.2.2.2]? = some (.fieldLink (mOwn q.1) q.2.1 "java/lang/String" "COMPACT_STRINGS" "Z")) ∨ (q.2.2.1 = 3 ∧ lw_tbl[q.2.2.2]? = some (.fieldLink (mOwn q.1) q.2.1 "jdk/internal/util/Preconditions" "SIOOBE_FORMATTER" "Ljava/util/function/BiFunction;")) := by decide +kernel
def mFchk (q : Nat × Nat × Nat × Nat × Nat) : Bool :=
  if q.2.2.1 = 30 then decide (lw_tbl[q.2.2.2.2]? = some (if q.2.2.2.1 = 0 then .fieldLink (mOwn q.1) q.2.1 "java/lang/String" "value" "[B" else .fieldLink (mOwn q.1) q.2.1 "java/lang/String" "coder" "B"))
  else match vwCl[q.2.2.1]? with
    | some w => decide (q.2.2.2.1 < w.2.2) && decide (lw_tbl[q.2.2.2.2]? = some (.fieldLink (mOwn q.1) q.2.1 (w.2.1 q.2.2.2.1).1 (w.2.1 q.2.2.2.1).2.1 (w.2.1 q.2.2.2.1).2.2.1))
    | none => false
set_option maxRecDepth 20000 in
theorem mFR_ok : mFR.all mFchk = true := by decide +kernel
def mKchk (q : Nat × Nat × Nat × Nat × Nat) : Bool := match vwCl[q.2.2.1]? with
  | some w => decide (q.2.2.2.1 = w.2.2) && decide (lw_tbl[q.2.2.2.2]? = some (.classLink (mOwn q.1) q.2.1 w.1))
  | none => false
theorem mKC_ok : mKC.all mKchk = true := by decide +kernel
def mMchk (q : Nat × Nat × Nat × Nat × Nat × Nat × Nat × Nat × Nat) : Bool :=
  let y := mYs q.2.2.2.1
  let link : Bool := decide (lw_tbl[q.2.2.2.2.2.1]? = some (.methodLink (mOwn q.1) q.2.1 y))
  let nest : Bool := decide (lw_tbl[q.2.2.2.2.2.1]? = some (.methodLinkNest (mOwn q.1) q.2.1 y "TicketsDrawn"))
  let inst : Bool := decide (lw_tbl[q.2.2.2.2.2.2.1]? = some (.instanceMethod y))
  let stat : Bool := decide (lw_tbl[q.2.2.2.2.2.2.1]? = some (.static y))
  let sel : Bool := decide (lw_tbl[q.2.2.2.2.2.2.2.1]? = some (.selects y.cls y y))
  let ini : Bool := decide (lw_tbl[q.2.2.2.2.2.2.2.2]? = some (.initialized y.cls))
  let base : Bool := decide (q.2.2.2.1 ≠ 2) && decide (0 < q.2.2.2.1) && decide (q.2.2.2.1 < mTl.length) && ini && decide ((parseMethodDescriptor y.desc).map (fun d => d.parameters.length) = some q.2.2.2.2.1)
  if q.2.2.1 = 0 then base && link && inst && sel && decide ((vwCl[mOc q.2.2.2.1]?).map (fun w => w.1) = some y.cls) && decide (mAl q.2.2.2.1 = (0, 0))
  else if q.2.2.1 = 1 then base && link && stat && decide (mAl q.2.2.2.1 = (0, 0))
  else if q.2.2.1 = 2 then base && link && inst && decide (y.name = "<init>")
  else if q.2.2.1 = 3 then base && nest && inst && decide (y.name = "<init>")
  else if q.2.2.1 = 4 then decide (lw_tbl[q.2.2.2.2.2.1]? = some (.methodLink (mOwn q.1) q.2.1 objectInit))
  else if q.2.2.1 = 5 then decide (lw_tbl[q.2.2.2.2.2.1]? = some (.methodLink (mOwn q.1) q.2.1 arraycopyName))
  else base && link && inst && sel && decide (y.cls = "java/lang/String") && decide (mAl q.2.2.2.1 = (0, 0))
set_option maxRecDepth 20000 in
theorem mMR_ok : mMR.all mMchk = true := by decide +kernel
theorem mT_len : mTl.length = 182 := by decide +kernel
def mMth (md : Nat) : Prop := mCn md = (mYs md).cls ∧ mML md ≤ 21 ∧ (md ≠ 2 → plainName (mYs md).cls = true) ∧ (mYs md).cls ≠ "java/lang/invoke/MethodHandle" ∧ (mYs md).cls ≠ "java/lang/invoke/VarHandle" ∧ (mAl md ≠ (0, 0) → (mYs md).name = "<init>" ∧ mRt md = none)
def mMthB (md : Nat) : Bool := decide (mCn md = (mYs md).cls) && decide (mML md ≤ 21) && (decide (md = 2) || plainName (mYs md).cls) && decide ((mYs md).cls ≠ "java/lang/invoke/MethodHandle") && decide ((mYs md).cls ≠ "java/lang/invoke/VarHandle") && (decide (mAl md = (0, 0)) || (decide ((mYs md).name = "<init>") && (mRt md).isNone))
set_option maxRecDepth 20000 in
theorem mMth_all : (List.range 182).all mMthB = true := by decide +kernel
theorem mMth_ok {md : Nat} (h : md < mTl.length) : mMth md := by
  have h1 := List.all_eq_true.mp mMth_all md (List.mem_range.mpr (by rw [mT_len] at h; exact h))
  simp only [mMthB, Bool.and_eq_true, decide_eq_true_eq, Bool.or_eq_true, Option.isNone_iff_eq_none] at h1
  obtain ⟨⟨⟨⟨⟨h1, h2⟩, h3⟩, h4⟩, h5⟩, h6⟩ := h1
  exact ⟨h1, h2, fun z => h3.elim (fun w => absurd w z) id, h4, h5, fun h => h6.elim (fun z => absurd z h) id⟩
def mCpl : List Nat := [0, 75, 78, 83, 89, 111, 147, 194, 227, 276, 287, 309, 317, 377, 381, 385, 389, 393, 397, 401, 407, 411, 415, 419, 423, 427, 431, 434, 437, 440, 444, 447, 451, 454, 461, 465, 469, 474, 478, 484, 488, 492, 495, 503, 507, 511, 515, 519, 524, 529, 533, 537, 541, 545, 549, 553, 557, 560, 564, 567, 570, 574, 578, 582, 588, 592, 595, 598, 603, 606, 609, 612, 616, 636, 639, 642, 645, 649, 653, 657, 661, 665, 669, 673, 677, 681, 685, 689, 693, 697, 703, 707, 711, 715, 719, 723, 727, 730, 734, 738, 742, 746, 750, 754, 759, 763, 767, 771, 775, 779, 783, 787, 792, 797, 801, 805, 809, 813, 818, 823, 829, 834, 839, 983, 986, 990, 994, 998, 1001, 1005, 1009, 1013, 1017, 1021, 1025, 1029, 1033, 1037, 1041, 1045, 1049, 1053, 1057, 1061, 1065, 1069, 1073, 1077, 1081, 1085, 1089, 1093, 1097, 1101, 1105, 1109, 1113, 1117, 1122, 1126, 1136, 1141, 1145, 1152, 1156, 1160, 1164, 1168, 1172, 1176, 1180, 1184, 1188, 1192, 1196, 1200, 1204, 1208, 1212, 1215, 1218, 1222]

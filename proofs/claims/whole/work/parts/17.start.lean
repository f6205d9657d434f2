/-! AT THE LAW'S ENTRY: what holds of the tables and of the cells that nobody writes -/
theorem mArrT {s : State} {A : Array Value} {ty : FieldType} (h : (Cond.arrayClass ty).before A s = true) : ∃ cA : ClassId, ArrOfT s cA ty ∧ s.vm.findClass ("[" ++ ty.toString) = some cA ∧ ∃ (k : Class) (comp : ClassId), s.vm.classes[cA]? = some k ∧ k.kind = .array comp ty := by
  obtain ⟨c, k, comp, h1, h2, h3⟩ := Cond.arrayClass_spec h
  exact ⟨c, fun n z => ⟨fun k h => (by cases h), k, h2, comp, h3⟩, h1, k, comp, h2, h3⟩
theorem mArrA {s : State} {A : Array Value} {t : FieldType} (h : (Cond.arrayOver (.array t)).before A s = true) : ∃ (comp c : ClassId) (k : Class), s.vm.findClass (FieldType.array t).toString = some comp ∧ s.vm.classes[c]? = some k ∧ k.kind = .array comp (.array t) ∧ s.vm.findClass ("[" ++ (FieldType.array t).toString) = some c := by
  simp only [Cond.before, Cond.holds, Cond.value, beq_iff_eq] at h
  cases hc : s.vm.findClass (FieldType.array t).toString with
  | none => simp [hc] at h
  | some comp =>
    simp only [hc, Option.bind_some, Option.bind_eq_some_iff, Option.map_eq_some_iff] at h
    obtain ⟨c, hi, k, hk, hb⟩ := h
    obtain ⟨hlt, hp, -⟩ := Array.findIdx?_eq_some_iff_getElem.mp hi
    have hk' : s.vm.classes[c]? = some s.vm.classes[c] := by simp [hlt]
    have ek : k = s.vm.classes[c] := Option.some.inj (hk.symm.trans hk')
    cases hkd : k.kind with
    | array cc ty =>
      rw [hkd] at hb
      simp only [Bool.and_eq_true, decide_eq_true_eq] at hb
      rw [← ek, hkd] at hp
      simp only [beq_iff_eq] at hp
      exact ⟨comp, c, k, rfl, hk, by rw [hkd, hp, hb.1], hb.2⟩
    | _ => rw [hkd] at hb; simp at hb
def mStm (j : Nat) : Term := .string "TicketsDrawn$Tokens" (mSix.getD j 0)
set_option maxRecDepth 20000 in
set_option maxHeartbeats 4000000 in
theorem mStart {p : Program} {s : State} {m : MethodId} {meth : Method} {c : Code} {b L : Nat} {xs : Nat → Int32} (hL : L ≤ 3072) (C0 : lw_At p s m meth c b L xs) : ∃ B : mBd, bO B = s.heap.size ∧ bS B = b ∧ bX B = (L, xs) ∧ mSt B s := by
  obtain ⟨hx, hb, hr, hml, hown, hts, hX, hbl, hlocks, hgv⟩ := C0
  have hs := flat_of_before _ hgv
  have hg : ∀ w ∈ gT, w.before #[Value.ref b] s = true := fun w hw => hts w (List.mem_filter.mp hw).1
  have hA : ∀ a : Nat, a < s.heap.size → ¬ s.heap.size ≤ a := fun a h => Nat.not_le.mpr h
  -- the kinds
  have hk : ∀ k : Nat, ∃ z : ClassId × (Nat → Nat), ∀ q : vw_C, vwCl[k]? = some q → u_Kn s q.1 q.2.1 q.2.2 z.1 z.2 := by
    intro k
    cases hq : vwCl[k]? with
    | none => exact ⟨(0, fun _ => 0), fun q h => by cases h⟩
    | some q =>
      obtain ⟨C, T, N⟩ := q
      obtain ⟨g1, -, -, -, g5, -⟩ := mCls hq
      obtain ⟨cC, iS, hn⟩ := u_known (n := N) hg g1 (hg _ g5)
      exact ⟨(cC, iS), fun q h => by cases h; exact hn⟩
  obtain ⟨z, hz⟩ := Classical.axiomOfChoice hk
  -- the arrays' kinds
  obtain ⟨cB, aB1, aB2, -⟩ := mArrT (hg _ mW_arr.1)
  obtain ⟨cI, aI1, aI2, kI, compI, aI3, aI4⟩ := mArrT (hg _ mW_arr.2.1)
  obtain ⟨cZ, aZ1, aZ2, -⟩ := mArrT (hg _ mW_arr.2.2)
  have hAO : (Cond.arrayOver (.object "TicketsDrawn$State")).before #[Value.ref b] s = true := hts _ (List.mem_of_getElem? (i := 271) (by decide +kernel))
  obtain ⟨cpS, cS, kS, s1, -, s3, s4, s5⟩ := Cond.arrayOver_spec hAO
  have hAA : (Cond.arrayOver (.array .int)).before #[Value.ref b] s = true := hts _ (List.mem_of_getElem? (i := 150) (by decide +kernel))
  obtain ⟨cpA, cA, kA, a1, a3, a4, a5⟩ := mArrA hAA
  have eA : cpA = cI := Option.some.inj (a1.symm.trans aI2)
  subst eA
  -- the factorials
  have hfl : (Cond.laysStatic "TicketsDrawn" "FACTORIALS" "[I").before #[Value.ref b] s = true := hts _ (List.mem_of_getElem? (i := 403) (by decide +kernel))
  have hini : (Cond.initialized "TicketsDrawn").before #[Value.ref b] s = true := hg _ (gT_of (i := 53) (by decide +kernel) rfl)
  have hfa : (Cond.arrayOf (.static "TicketsDrawn" "FACTORIALS" "[I") .int).before #[Value.ref b] s = true := hs _ (by decide +kernel)
  have hfn : (Cond.eq (.length (.static "TicketsDrawn" "FACTORIALS" "[I")) (.int 13)).before #[Value.ref b] s = true := hs _ (by decide +kernel)
  have hfm : ∀ j : Nat, j < 13 → (Cond.eq (.elem (.static "TicketsDrawn" "FACTORIALS" "[I") (.int (Int32.ofNat j))) (.int (mFac.getD j 0))) ∈ flatC (Jvm.Cond.and given_1 narrow_1) := by decide +kernel
  obtain ⟨fa, hf1, hf2⟩ := va_Tof (N := 13) (f := fun j => .int (mFac.getD j 0)) (A := fun q => s.heap.size ≤ q) (by decide) hfa (va_eqt hfn) (fun j hj => va_eqt (hs _ (hfm j hj))) hA
  have hfz := va_Zref (A := fun q => s.heap.size ≤ q) hfl hini hf1 hA
  -- the JDK's statics
  have hc1 : (Cond.laysStatic "java/lang/String" "COMPACT_STRINGS" "Z").before #[Value.ref b] s = true := hts _ (List.mem_of_getElem? (i := 584) (by decide +kernel))
  have hc2 : (Cond.initialized "java/lang/String").before #[Value.ref b] s = true := hg _ (gT_of (i := 67) (by decide +kernel) rfl)
  have hc3 : (Cond.eq (.static "java/lang/String" "COMPACT_STRINGS" "Z") (.int 1)).before #[Value.ref b] s = true := hs _ (by decide +kernel)
  have hcz := va_Zof (A := fun q => s.heap.size ≤ q) hc1 hc2 (va_eqi hc3) hA
  have hm1 : (Cond.laysStatic "jdk/internal/util/Preconditions" "SIOOBE_FORMATTER" "Ljava/util/function/BiFunction;").before #[Value.ref b] s = true := hts _ (List.mem_of_getElem? (i := 600) (by decide +kernel))
  have hm2 : (Cond.initialized "jdk/internal/util/Preconditions").before #[Value.ref b] s = true := hg _ (gT_of (i := 69) (by decide +kernel) rfl)
  have hm3 : (Cond.isRef (.static "jdk/internal/util/Preconditions" "SIOOBE_FORMATTER" "Ljava/util/function/BiFunction;")).before #[Value.ref b] s = true := hs _ (by decide +kernel)
  obtain ⟨fm, hm4, hm5⟩ : ∃ fm : Value, va_Z "jdk/internal/util/Preconditions" "SIOOBE_FORMATTER" "Ljava/util/function/BiFunction;" fm (fun q => s.heap.size ≤ q) s s.heap ∧ fm.category = 1 := by
    rcases va_Zqof (A := fun q => s.heap.size ≤ q) hm1 hm2 hm3 hA with h | ⟨t, h⟩
    · exact ⟨_, h, rfl⟩
    · exact ⟨_, h, rfl⟩
  -- the texts
  have ht1 : ∀ i : Nat, i < 11 → (Cond.exactly (mStm i) "java/lang/String") ∈ flatC (Jvm.Cond.and given_1 narrow_1) := by decide +kernel
  have ht2 : ∀ i : Nat, i < 11 → (Cond.eq (.field (mStm i) "java/lang/String" "coder" "B") (.int 0)) ∈ flatC (Jvm.Cond.and given_1 narrow_1) := by decide +kernel
  have ht3 : ∀ i : Nat, i < 11 → (Cond.arrayOf (.field (mStm i) "java/lang/String" "value" "[B") .byte) ∈ flatC (Jvm.Cond.and given_1 narrow_1) := by decide +kernel
  have ht4 : ∀ i : Nat, i < 11 → (Cond.eq (.length (.field (mStm i) "java/lang/String" "value" "[B")) (.int (Int32.ofNat (mSln.getD i 0)))) ∈ flatC (Jvm.Cond.and given_1 narrow_1) := by decide +kernel
  have ht5 : ∀ i : Nat, i < 11 → ∀ j : Nat, j < mSln.getD i 0 → (Cond.eq (.elem (.field (mStm i) "java/lang/String" "value" "[B") (.int (Int32.ofNat j))) (.int ((mStr.getD i []).getD j 0))) ∈ flatC (Jvm.Cond.and given_1 narrow_1) := by decide +kernel
  have ht6 : ∀ i : Nat, i < 11 → ∀ j : Nat, j < 11 → i ≠ j → (Cond.not (Cond.eq (mStm i) (mStm j))) ∈ flatC (Jvm.Cond.and given_1 narrow_1) ∨ (Cond.not (Cond.eq (mStm j) (mStm i))) ∈ flatC (Jvm.Cond.and given_1 narrow_1) := by decide +kernel
  obtain ⟨adK, adV, hS1, hS2⟩ := vk_Sof (N := 11) (tm := mStm) (len := mSln) (byt := mStr) (A := fun q => s.heap.size ≤ q) (by decide) (fun i hi => hs _ (ht1 i hi)) (fun i hi => hs _ (ht2 i hi)) (fun i hi => hs _ (ht3 i hi)) (fun i hi => hs _ (ht4 i hi)) (fun i hi j hj => hs _ (ht5 i hi j hj)) (fun i j hi hj hn => (ht6 i hi j hj hn).imp (hs _) (hs _)) hA
  have ht7 : ∀ j : Nat, j < 11 → Cond.stringRef "TicketsDrawn$Tokens" (mSix.getD j 0) (mStx.getD j "") ∈ lw_tbl := by decide +kernel
  refine ⟨((fun k => (z k).1, fun k => (z k).2), s.heap.size, fun t => if t = 20 then cB else if t = 21 then cpA else if t = 22 then cZ else if t = 23 then cS else cA, (L, xs), b, fa, adK, adV, fm), rfl, rfl, rfl, ?_⟩
  refine ⟨⟨fun k q hq => hz k q hq, fun k q hq => ?_⟩, fun w hw => ?_, va_AO.of hAO, ⟨kA, a3, a4⟩, Nat.le_refl _, hX, hbl, hfz, hf2, hcz, hm4, hm5, fun j hj => vk_R.of (hts _ (ht7 j hj)) (hS2 j hj), hS1, by show L < 2 ^ 31; omega⟩
  · have hk5 : k < 5 := (List.getElem?_eq_some_iff.mp hq).1
    match k, hk5, hq with
    | 0, _, hq => cases hq; exact ⟨aB1, aB2⟩
    | 1, _, hq => cases hq; exact ⟨aI1, aI2⟩
    | 2, _, hq => cases hq; exact ⟨aZ1, aZ2⟩
    | 3, _, hq => cases hq; exact ⟨fun n z => ⟨fun k h => (by cases h), kS, s3, cpS, s4⟩, kS, cpS, s3, s4, s1, s5⟩
    | 4, _, hq => cases hq; exact ⟨fun n z => ⟨fun k h => (by cases h), kA, a3, cpA, a4⟩, a5⟩
  · have hm := List.mem_filter.mp hw
    have h1 := hts w hm.1
    have h2 := hm.2
    cases w <;> first | exact va_Nw.of rfl h1 | cases h2

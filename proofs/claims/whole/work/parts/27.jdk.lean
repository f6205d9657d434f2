set_option maxRecDepth 20000
set_option maxHeartbeats 4000000
/-! JDK: bitCount, numberOfTrailingZeros, of numbers below 4096 -/
theorem tN_mod {a : Nat} : tN (a % 4294967296) = tN a := by
  apply Int32.toInt_inj.mp
  rw [tN_int, tN_int, Int.bmod_def, Int.bmod_def]
  omega
theorem tN_ushr {a k : Nat} (h : k < 32) : ((tN a).toUInt32 >>> ((tN k).toUInt32 &&& Int32.toUInt32 (tN 31))).toInt32 = tN ((a % 4294967296) >>> k) := by
  have e : ((tN k).toUInt32 &&& Int32.toUInt32 (tN 31)) = UInt32.ofNat k := by
    have : ∀ k, k < 32 → ((tN k).toUInt32 &&& Int32.toUInt32 (tN 31)) = UInt32.ofNat k := by decide
    exact this k h
  rw [e]
  apply Int32.toBitVec_inj.mp
  apply BitVec.eq_of_toNat_eq
  show ((tN a).toUInt32 >>> UInt32.ofNat k).toNat = _
  rw [UInt32.toNat_shiftRight, tN_bv, BitVec.toNat_ofNat, UInt32.toNat_ofNat']
  have h1 : (tN a).toUInt32.toNat = a % 4294967296 := by
    show ((tN a).toBitVec).toNat = _
    rw [tN_bv, BitVec.toNat_ofNat]
  have h2 : (a % 4294967296) >>> k ≤ a % 4294967296 := Nat.shiftRight_le _ _
  rw [h1, Nat.mod_eq_of_lt (show k < 2 ^ 32 by omega), Nat.mod_eq_of_lt (show k < 32 by omega), Nat.mod_eq_of_lt (show (a % 4294967296) >>> k < 2 ^ 32 by omega)]
theorem tN_subm {a b : Nat} : tN a - tN b = tN (a + (4294967296 - b % 4294967296)) := by
  rw [← tN_mod (a := b)]
  rw [show a + (4294967296 - b % 4294967296) = a + 4294967296 - b % 4294967296 by omega, ← tN_per (a := a), tN_sub (by omega)]
def bc1 (x : Nat) : Nat := x + (4294967296 - ((x % 4294967296) >>> 1 &&& 1431655765) % 4294967296)
def bc2 (x : Nat) : Nat := (x &&& 858993459) + ((x % 4294967296) >>> 2 &&& 858993459)
def bc3 (x : Nat) : Nat := (x + (x % 4294967296) >>> 4) &&& 252645135
def bc4 (x : Nat) : Nat := x + (x % 4294967296) >>> 8
def bc5 (x : Nat) : Nat := x + (x % 4294967296) >>> 16
theorem bcC_ok : (List.range 4096).all (fun x => (bc5 (bc4 (bc3 (bc2 (bc1 x)))) &&& 63) % 4294967296 == pcn x) = true := by decide +kernel
theorem c_33 {X : mX} {D : Nat} {P : mPost} {σ : mS} {x : Nat} (hD : 1 ≤ D) (hx : x < 4096) : mCall X D 33 [.int (tN x)] σ P = P (some (.int (tN (pcn x)))) σ := by
  have e := beq_iff_eq.mp (List.all_eq_true.mp bcC_ok x (List.mem_range.mpr hx))
  rw [e_33 hD, ← e, tN_mod]
  unfold bc5 bc4 bc3 bc2 bc1
  simp (disch := first | omega | assumption | exact mOk_int | exact mOk_null | exact mOk_ref | (simp (disch := omega) only [aF_ef, aF_nf, aU_ne, aU_eq, aU_ne2]; first | done | omega | assumption)) only [k_33_0, k_33_1, il_0, r_push, r_iushr, r_iand, r_isub, is_0, r_iadd, r_iret, kd_0, kd_1, kd_2, kd_3, kd_4, kd_5, ln_0, ln_1, ln_2, ln_3, ln_4, ln_5, Option.some.injEq, Value.int.injEq, Value.ref.injEq, Value.long.injEq, Prod.mk.injEq, exists_eq_left', exists_eq_left, true_and, and_true, mLk, Option.any_some, mC1, Value.category, Option.toList_some, Option.toList_none, List.nil_append, List.cons_append, List.length_cons, List.length_nil, ne_eq, Nat.reduceEqDiff, not_false_eq_true, reduceCtorEq, exists_and_left, exists_and_right, Nat.reduceLeDiff, Nat.reduceAdd, and_self, exists_eq, exists_eq_right, exists_const, eq_self, exists_eq', not_true_eq_false, false_implies, true_implies, implies_true, forall_const, or_true, true_or, false_or, or_false, and_false, false_and, if_true, if_false, ite_true, ite_false, mB, mOk_int, mOk_ref, mOk_null, mOk_long, Nat.reduceLT, Nat.reduceSub, Nat.reduceMul, Nat.reduceDiv, Nat.reduceMod, Classical.not_not, ↓reduceIte, Nat.zero_add, Nat.add_zero, tN_l, tN_m1, tN_n1, tN_n8, aF_ef, aF_nf, aF_U, tN_lt, tN_le, tN_inj, tN_add, tN_mul, tN_and, tN_or, tN_xor, tN_div, nm_rem, tN_shl, tN_shr, tN_b2, nd_lt, nd_nlt, nd_le, nd_nle, nd_eq, nd_ne, mN_at, mN_U, aU_ne, aU_eq, aU_ne2, tN_ushr, tN_subm]
def nz1 (x : Nat) : Nat := (x ^^^ 4294967295) &&& (x - 1)
theorem nzC_ok : (List.range 4096).all (fun x => x == 0 || nz1 x == 2 ^ lob x - 1) = true := by decide +kernel
theorem c_29 {X : mX} {D : Nat} {P : mPost} {σ : mS} {x : Nat} (hD : 1 ≤ D) (hx : x < 4096) (h0 : x ≠ 0) : mCall X D 29 [.int (tN x)] σ P = P (some (.int (tN (lob x)))) σ := by
  have e := List.all_eq_true.mp nzC_ok x (List.mem_range.mpr hx)
  simp only [Bool.or_eq_true, beq_iff_eq, h0, false_or] at e
  unfold nz1 at e
  have h2 := (loC_at hx h0).2.2
  rw [e_29 hD]
  generalize lob x = l at e h2
  have : l = 0 ∨ l = 1 ∨ l = 2 ∨ l = 3 ∨ l = 4 ∨ l = 5 ∨ l = 6 ∨ l = 7 ∨ l = 8 ∨ l = 9 ∨ l = 10 ∨ l = 11 := by omega
  rcases this with rfl | rfl | rfl | rfl | rfl | rfl | rfl | rfl | rfl | rfl | rfl | rfl <;>
  simp (disch := first | omega | assumption | exact mOk_int | exact mOk_null | exact mOk_ref | (simp (disch := omega) only [aF_ef, aF_nf, aU_ne, aU_eq, aU_ne2]; first | done | omega | assumption)) only [k_29_0, k_29_1, il_0, r_push, r_ixor, r_isub, r_iand, is_0, ri_ifgt, r_iret, is_1, ri_icle, ii_1, r_iushr, il_1, r_iadd, kd_0, kd_1, kd_2, kd_3, kd_4, kd_5, ln_0, ln_1, ln_2, ln_3, ln_4, ln_5, Option.some.injEq, Value.int.injEq, Value.ref.injEq, Value.long.injEq, Prod.mk.injEq, exists_eq_left', exists_eq_left, true_and, and_true, mLk, Option.any_some, mC1, Value.category, Option.toList_some, Option.toList_none, List.nil_append, List.cons_append, List.length_cons, List.length_nil, ne_eq, Nat.reduceEqDiff, not_false_eq_true, reduceCtorEq, exists_and_left, exists_and_right, Nat.reduceLeDiff, Nat.reduceAdd, and_self, exists_eq, exists_eq_right, exists_const, eq_self, exists_eq', not_true_eq_false, false_implies, true_implies, implies_true, forall_const, or_true, true_or, false_or, or_false, and_false, false_and, if_true, if_false, ite_true, ite_false, mB, mOk_int, mOk_ref, mOk_null, mOk_long, Nat.reduceLT, Nat.reduceSub, Nat.reduceMul, Nat.reduceDiv, Nat.reduceMod, Classical.not_not, ↓reduceIte, Nat.zero_add, Nat.add_zero, tN_l, tN_m1, tN_n1, tN_n8, aF_ef, aF_nf, aF_U, tN_lt, tN_le, tN_inj, tN_add, tN_mul, tN_sub, tN_and, tN_or, tN_xor, tN_and31, tN_clamp, tN_in, tN_div, nm_rem, tN_shl, tN_shr, tN_b2, nd_lt, nd_nlt, nd_le, nd_nle, nd_eq, nd_ne, mN_at, mN_U, aU_ne, aU_eq, aU_ne2, tN_ushr, e, Nat.reducePow, Nat.reduceShiftRight, Nat.reduceAnd]
theorem c_108 {X : mX} {D : Nat} {P : mPost} {σ : mS} {f : Nat} (hD : 2 ≤ D) (hx : f < 4096) : mCall X D 108 [.int (tN f)] σ P = P (some (.int (tN (hol f)))) σ := by
  have h1 : f &&& (f <<< 1 ^^^ 4294967295) &&& (f >>> 1 ^^^ 4294967295) < 4096 := Nat.lt_of_le_of_lt Nat.and_le_left (Nat.lt_of_le_of_lt Nat.and_le_left hx)
  rw [e_108 (by omega)]
  unfold hol
  simp (disch := first | omega | assumption | exact mOk_int | exact mOk_null | exact mOk_ref | (simp (disch := omega) only [aF_ef, aF_nf, aU_ne, aU_eq, aU_ne2]; first | done | omega | assumption)) only [k_108_0, il_0, r_push, r_ishl, r_ixor, r_iand, r_ishr, r_callS1, r_iret, kd_0, kd_1, kd_2, kd_3, kd_4, kd_5, ln_0, ln_1, ln_2, ln_3, ln_4, ln_5, Option.some.injEq, Value.int.injEq, Value.ref.injEq, Value.long.injEq, Prod.mk.injEq, exists_eq_left', exists_eq_left, true_and, and_true, mLk, Option.any_some, mC1, Value.category, Option.toList_some, Option.toList_none, List.nil_append, List.cons_append, List.length_cons, List.length_nil, ne_eq, Nat.reduceEqDiff, not_false_eq_true, reduceCtorEq, exists_and_left, exists_and_right, Nat.reduceLeDiff, Nat.reduceAdd, and_self, exists_eq, exists_eq_right, exists_const, eq_self, exists_eq', not_true_eq_false, false_implies, true_implies, implies_true, forall_const, or_true, true_or, false_or, or_false, and_false, false_and, if_true, if_false, ite_true, ite_false, mB, mOk_int, mOk_ref, mOk_null, mOk_long, Nat.reduceLT, Nat.reduceSub, Nat.reduceMul, Nat.reduceDiv, Nat.reduceMod, Classical.not_not, ↓reduceIte, Nat.zero_add, Nat.add_zero, tN_l, tN_m1, tN_n1, tN_n8, aF_ef, aF_nf, aF_U, tN_lt, tN_le, tN_inj, tN_add, tN_mul, tN_sub, tN_and, tN_or, tN_xor, tN_and31, tN_clamp, tN_in, tN_div, nm_rem, tN_shl, tN_shr, tN_b2, nd_lt, nd_nlt, nd_le, nd_nle, nd_eq, nd_ne, mN_at, mN_U, aU_ne, aU_eq, aU_ne2, c_33]

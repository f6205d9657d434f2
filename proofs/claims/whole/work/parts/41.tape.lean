set_option maxRecDepth 20000
set_option maxHeartbeats 4000000
/-! Bytes of a number; the tape -/
theorem by_and {v k : Nat} (hk : k < 32) (h : k ≤ 24) : (tN v >>> tN k) &&& tN 255 = tN (v % 4294967296 / 2 ^ k % 256) := by
  apply Int32.toBitVec_inj.mp
  rw [Int32.toBitVec_and, Int32.toBitVec_shiftRight, BitVec.sshiftRight_eq', tN_sm k hk, tN_bv, tN_bv, tN_bv]
  apply BitVec.eq_of_getLsbD_eq
  intro i hi
  rw [BitVec.getLsbD_and, BitVec.getLsbD_sshiftRight, BitVec.getLsbD_ofNat, BitVec.getLsbD_ofNat, BitVec.getLsbD_ofNat]
  rw [show (256 : Nat) = 2 ^ 8 from rfl, Nat.testBit_mod_two_pow, Nat.testBit_div_two_pow, show (4294967296 : Nat) = 2 ^ 32 from rfl, Nat.testBit_mod_two_pow, show (255 : Nat) = 2 ^ 8 - 1 from rfl, Nat.testBit_two_pow_sub_one]
  by_cases h8 : i < 8
  · simp only [h8, hi, decide_true, Bool.true_and, Bool.and_true]
    rw [if_pos (show k + i < 32 by omega)]
    simp only [show i + k < 32 by omega, show k + i < 32 by omega, decide_true, Bool.true_and, Nat.add_comm k i, show ¬ 32 ≤ i by omega, decide_false, Bool.not_false]
  · simp only [h8, decide_false, Bool.false_and, Bool.and_false]
theorem tN_k31 {k : Nat} (h : k < 32) : tN k &&& tN 31 = tN k := by rw [tN_and, tN_and31 h]
def sb (b : Nat) : Nat := if b < 128 then b else b + 4294967040
theorem sb_and {b : Nat} (h : b < 256) : tN (sb b) &&& tN 255 = tN b := by
  have : ∀ b, b < 256 → tN (sb b) &&& tN 255 = tN b := by decide +kernel
  exact this b h
theorem by_i8 {v k : Nat} (hk : k < 32) (h : k ≤ 24) : (tN v >>> tN k).toInt8.toInt32 = tN (sb (v % 4294967296 / 2 ^ k % 256)) := by
  have e := by_and (v := v) hk h
  have e2 : ∀ x : Int32, x.toInt8.toInt32 = (x &&& tN 255).toInt8.toInt32 := by
    intro x
    congr 1
    apply Int8.toBitVec_inj.mp
    show x.toBitVec.signExtend 8 = (x.toBitVec &&& (tN 255).toBitVec).signExtend 8
    rw [BitVec.signExtend_eq_setWidth_of_le _ (by decide), BitVec.signExtend_eq_setWidth_of_le _ (by decide)]
    apply BitVec.eq_of_getLsbD_eq
    intro i hi
    rw [BitVec.getLsbD_setWidth, BitVec.getLsbD_setWidth, BitVec.getLsbD_and, tN_bv, BitVec.getLsbD_ofNat, show (255 : Nat) = 2 ^ 8 - 1 from rfl, Nat.testBit_two_pow_sub_one]
    simp only [hi, show i < 32 by omega, decide_true, Bool.true_and, Bool.and_true]
  have e3 : ∀ b, b < 256 → (tN b).toInt8.toInt32 = tN (sb b) := by decide +kernel
  rw [e2, e, e3 _ (Nat.mod_lt _ (by decide))]
theorem by_nar {b : Nat} (h : b < 256) : vp_nar .byte (tN (sb b)) = tN (sb b) := by
  have : ∀ b, b < 256 → vp_nar .byte (tN (sb b)) = tN (sb b) := by decide +kernel
  exact this b h
def tpB (B : Nat → Nat) (L v : Nat) : Nat → Nat := fun i => if i = L + 3 then v % 4294967296 / 2 ^ 0 % 256 else if i = L + 2 then v % 4294967296 / 2 ^ 8 % 256 else if i = L + 1 then v % 4294967296 / 2 ^ 16 % 256 else if i = L then v % 4294967296 / 2 ^ 24 % 256 else B i
theorem c_52 {X : mX} {D : Nat} {P : mPost} {A : Nat → Nat → Nat} {G : mG} {v : Nat} (hD : 1 ≤ D) (h1 : A 38 0 ≤ 296) : mCall X D 52 [.ref 38, .int (tN v)] (mN A, RF, G, mSh) P = P none (mN (aF (aU A 38 0 (A 38 0 + 4)) 39 (tpB (A 39) (A 38 0) v)), RF, G, mSh) := by
  rw [e_52 hD]
  simp (disch := first | omega | assumption | exact mOk_int | exact mOk_null | exact mOk_ref | (simp (disch := omega) only [aF_ef, aF_nf, aU_ne, aU_eq, aU_ne2]; first | done | omega | assumption)) only [k_52_0, r_push, is_2, il_2, ri_iflt, al_0, q_getI, ri_icge, gq_0, gq_1, gq_2, gq_3, gq_4, il_1, r_ishr, r_iand, q_iast, r_dup, r_iadd, q_putI, ii_2, r_goto, r_vret, kd_0, kd_1, kd_2, kd_3, kd_4, kd_5, ln_0, ln_1, ln_2, ln_3, ln_4, ln_5, Option.some.injEq, Value.int.injEq, Value.ref.injEq, Value.long.injEq, Prod.mk.injEq, exists_eq_left', exists_eq_left, true_and, and_true, mLk, Option.any_some, mC1, Value.category, Option.toList_some, Option.toList_none, List.nil_append, List.cons_append, List.length_cons, List.length_nil, ne_eq, Nat.reduceEqDiff, not_false_eq_true, reduceCtorEq, exists_and_left, exists_and_right, Nat.reduceLeDiff, Nat.reduceAdd, and_self, exists_eq, exists_eq_right, exists_const, eq_self, exists_eq', not_true_eq_false, false_implies, true_implies, implies_true, forall_const, or_true, true_or, false_or, or_false, and_false, false_and, if_true, if_false, ite_true, ite_false, mB, mOk_int, mOk_ref, mOk_null, mOk_long, Nat.reduceLT, Nat.reduceSub, Nat.reduceMul, Nat.reduceDiv, Nat.reduceMod, Classical.not_not, ↓reduceIte, Nat.zero_add, Nat.add_zero, Nat.add_sub_cancel, Bool.false_eq_true, tN_l, tN_m1, tN_n1, tN_n8, tN_dec, tN_dec8, aF_ef, aF_nf, aF_U, tN_inj, tN_add, tN_mul, tN_sub, tN_or, tN_xor, tN_and31, tN_clamp, tN_in, tN_div, nm_rem, tN_shl, tN_b2, nd_lt, nd_nlt, nd_le, nd_nle, nd_eq, nd_ne, mN_at, mN_U, aU_ne, aU_eq, aU_ne2, tW_lt, tW_le, tW_lt2, tW_le2, kh_52_3, tN_k31, by_and]
  refine congrArg (fun z => P none (mN z, RF, G, mSh)) ?_
  funext c i
  unfold aF aU tpB
  by_cases c1 : c = 39
  · subst c1
    simp only [show ¬ (39 : Nat) = 38 by decide, false_and, if_false, true_and, if_true]
  · by_cases c2 : c = 38
    · subst c2
      by_cases c3 : i = 0
      · subst c3; simp
      · simp [c3]
    · simp only [c1, c2, false_and, if_false]

set_option maxRecDepth 20000
set_option maxHeartbeats 4000000
/-! MODEL: its eye on the tape -/
def moW (A : Nat → Nat → Nat) (a g s v : Nat) : Nat → Nat → Nat := fun c i => if c = 185 then (if i = 30 then a else if i = 32 then g else if i = 33 then s else if i = 34 then v else A 185 i) else A c i
section
variable {A : Nat → Nat → Nat} {a g s v : Nat}
theorem mo_30 : moW A a g s v 185 30 = a := rfl
theorem mo_32 : moW A a g s v 185 32 = g := rfl
theorem mo_33 : moW A a g s v 185 33 = s := rfl
theorem mo_34 : moW A a g s v 185 34 = v := rfl
theorem mo_31 : moW A a g s v 185 31 = A 185 31 := rfl
theorem mo_o {c : Nat} (h : c ≠ 185) : moW A a g s v c = A c := by
  funext i
  unfold moW
  rw [if_neg h]
theorem mw_30 {w : Nat} : aU (moW A a g s v) 185 30 w = moW A w g s v := by
  funext c i
  unfold aU moW
  by_cases e : c = 185
  · by_cases d : i = 30
    · simp only [e, d, and_self, if_true]
    · simp only [e, d, and_false, if_true, if_false]
  · simp only [e, false_and, if_false]
theorem mw_32 {w : Nat} : aU (moW A a g s v) 185 32 w = moW A a w s v := by
  funext c i
  unfold aU moW
  by_cases e : c = 185
  · by_cases d : i = 32
    · simp only [e, d, and_self, if_true, show ¬ (32 : Nat) = 30 by decide, if_false]
    · simp only [e, d, and_false, if_true, if_false]
  · simp only [e, false_and, if_false]
theorem mw_33 {w : Nat} : aU (moW A a g s v) 185 33 w = moW A a g w v := by
  funext c i
  unfold aU moW
  by_cases e : c = 185
  · by_cases d : i = 33
    · simp only [e, d, and_self, if_true, show ¬ (33 : Nat) = 30 by decide, show ¬ (33 : Nat) = 32 by decide, if_false]
    · simp only [e, d, and_false, if_true, if_false]
  · simp only [e, false_and, if_false]
theorem mw_34 {w : Nat} : aU (moW A a g s v) 185 34 w = moW A a g s w := by
  funext c i
  unfold aU moW
  by_cases e : c = 185
  · by_cases d : i = 34
    · simp only [e, d, and_self, if_true, show ¬ (34 : Nat) = 30 by decide, show ¬ (34 : Nat) = 32 by decide, show ¬ (34 : Nat) = 33 by decide, if_false]
    · simp only [e, d, and_false, if_true, if_false]
  · simp only [e, false_and, if_false]
end
/-- the byte seen -/
def seB (b : Nat → Nat) (L a : Nat) : Nat := if a < L then b a else 4294967295
theorem m_155 {X : mX} {D : Nat} {P : mPost} {A : Nat → Nat → Nat} {G : mG} {b : Nat → Nat} {a g s v : Nat} (hD : 1 ≤ D) (hL : A 185 31 ≤ 300) (ha : a ≤ 300) (hb : ∀ i, i < A 185 31 → b i < 256 ∧ A 186 i = sb (b i)) : mCall X D 155 [.ref 185] (mN (moW A a g s v), RF, G, mSh) P = P (some (.int (tN (seB b (A 185 31) a)))) (mN (moW A a g s v), RF, G, mSh) := by
  rw [e_155 hD]
  unfold seB
  by_cases c : a < A 185 31
  · rw [if_pos c]
    obtain ⟨h1, h2⟩ := hb a c
    have h3 := sb_and h1
    simp (disch := first | omega | assumption | exact mOk_int | exact mOk_null | exact mOk_ref | (simp (disch := omega) only [aF_ef, aF_nf, aU_ne, aU_eq, aU_ne2]; first | done | omega | assumption)) only [k_155_0, al_0, q_getI, ri_icge, gq_0, gq_1, gq_2, gq_3, gq_4, q_bald, r_push, r_iand, r_goto, r_iret, kd_0, kd_1, kd_2, kd_3, kd_4, kd_5, ln_0, ln_1, ln_2, ln_3, ln_4, ln_5, Option.some.injEq, Value.int.injEq, Value.ref.injEq, Value.long.injEq, Prod.mk.injEq, exists_eq_left', exists_eq_left, true_and, and_true, mLk, Option.any_some, mC1, Value.category, Option.toList_some, Option.toList_none, List.nil_append, List.cons_append, List.length_cons, List.length_nil, ne_eq, Nat.reduceEqDiff, not_false_eq_true, reduceCtorEq, exists_and_left, exists_and_right, Nat.reduceLeDiff, Nat.reduceAdd, and_self, exists_eq, exists_eq_right, exists_const, eq_self, exists_eq', not_true_eq_false, false_implies, true_implies, implies_true, forall_const, or_true, true_or, false_or, or_false, and_false, false_and, if_true, if_false, ite_true, ite_false, mB, mOk_int, mOk_ref, mOk_null, mOk_long, Nat.reduceLT, Nat.reduceSub, Nat.reduceMul, Nat.reduceDiv, Nat.reduceMod, Classical.not_not, ↓reduceIte, Nat.zero_add, Nat.add_zero, Nat.add_sub_cancel, Bool.false_eq_true, tN_l, tN_m1, tN_n1, tN_n8, tN_dec, tN_dec8, aF_ef, aF_nf, aF_U, tN_lt, tN_le, tN_inj, tN_add, tN_mul, tN_sub, tN_and, tN_or, tN_xor, tN_and31, tN_clamp, tN_in, tN_div, nm_rem, tN_shl, tN_shr, tN_b2, nd_lt, nd_nlt, nd_le, nd_nle, nd_eq, nd_ne, mN_at, mN_U, aU_ne, aU_eq, aU_ne2, mo_30, mo_31, mo_o, h2, h3, c]
  · rw [if_neg c]
    simp (disch := first | omega | assumption | exact mOk_int | exact mOk_null | exact mOk_ref | (simp (disch := omega) only [aF_ef, aF_nf, aU_ne, aU_eq, aU_ne2]; first | done | omega | assumption)) only [k_155_0, al_0, q_getI, ri_icge, gq_0, gq_1, gq_2, gq_3, gq_4, q_bald, r_push, r_iand, r_goto, r_iret, kd_0, kd_1, kd_2, kd_3, kd_4, kd_5, ln_0, ln_1, ln_2, ln_3, ln_4, ln_5, Option.some.injEq, Value.int.injEq, Value.ref.injEq, Value.long.injEq, Prod.mk.injEq, exists_eq_left', exists_eq_left, true_and, and_true, mLk, Option.any_some, mC1, Value.category, Option.toList_some, Option.toList_none, List.nil_append, List.cons_append, List.length_cons, List.length_nil, ne_eq, Nat.reduceEqDiff, not_false_eq_true, reduceCtorEq, exists_and_left, exists_and_right, Nat.reduceLeDiff, Nat.reduceAdd, and_self, exists_eq, exists_eq_right, exists_const, eq_self, exists_eq', not_true_eq_false, false_implies, true_implies, implies_true, forall_const, or_true, true_or, false_or, or_false, and_false, false_and, if_true, if_false, ite_true, ite_false, mB, mOk_int, mOk_ref, mOk_null, mOk_long, Nat.reduceLT, Nat.reduceSub, Nat.reduceMul, Nat.reduceDiv, Nat.reduceMod, Classical.not_not, ↓reduceIte, Nat.zero_add, Nat.add_zero, Nat.add_sub_cancel, Bool.false_eq_true, tN_l, tN_m1, tN_n1, tN_n8, tN_dec, tN_dec8, aF_ef, aF_nf, aF_U, tN_lt, tN_le, tN_inj, tN_add, tN_mul, tN_sub, tN_and, tN_or, tN_xor, tN_and31, tN_clamp, tN_in, tN_div, nm_rem, tN_shl, tN_shr, tN_b2, nd_lt, nd_nlt, nd_le, nd_nle, nd_eq, nd_ne, mN_at, mN_U, aU_ne, aU_eq, aU_ne2, mo_30, mo_31, c]

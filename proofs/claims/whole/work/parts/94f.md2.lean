set_option maxRecDepth 20000
set_option maxHeartbeats 4000000
/-! MODEL: blanks skipped -/
theorem l_154a {X : mX} {D : Nat} {cap : Nat × Nat} {P : mPost} {G : mG} {A : Nat → Nat → Nat} {b : Nat → Nat} {g s v : Nat} {u1 u2 : Value} (hD : 1 ≤ D) (hL : A 185 31 ≤ 300) (hb : ∀ i, i < A 185 31 → b i < 256 ∧ A 186 i = sb (b i)) : ∀ m a, a + m = A 185 31 → mW (mCall X D) X cap 154 P 0 [.ref 185, u1, u2] [] (mN (moW A a g s v), RF, G, mSh) = mW (mCall X D) X cap 154 P 0 [.ref 185, u1, u2] [] (mN (moW A (rE cyB b (A 185 31) a m) g s v), RF, G, mSh) := by
  intro m
  induction m with
  | zero =>
    intro a e
    rfl
  | succ m ih =>
    intro a e
    have e155 := fun P' => m_155 (X := X) (D := D) (P := P') (G := G) (A := A) (b := b) (a := a) (g := g) (s := s) (v := v) hD hL (by omega) hb
    have ee : seB b (A 185 31) a = b a := by unfold seB; rw [if_pos (by omega)]
    obtain ⟨h1, h2⟩ := hb a (by omega)
    rw [rE]
    by_cases c : cyB (b a) = true
    · rw [if_pos ⟨by omega, c⟩, ← ih (a + 1) (by omega), kh_154_0]
      unfold cyB at c
      rw [Bool.or_eq_true, decide_eq_true_eq, decide_eq_true_eq] at c
      rcases c with c | c
      · rw [c] at ee
        simp (disch := first | omega | assumption | exact mOk_int | exact mOk_null | exact mOk_ref | (simp (disch := omega) only [aF_ef, aF_nf, aU_ne, aU_eq, aU_ne2]; first | done | omega | assumption)) only [k_154_0, k_154_1, k_154_2, k_154_3, al_0, q_callV0, r_push, ri_iceq, ri_icne, r_dup, q_getI, r_iadd, q_putI, r_goto, is_1, il_1, q_putL, is_2, ri_ifge, r_callS3, ri_ifeq, q_getL, r_lshl, r_i2l, r_lor, ii_2, il_2, ri_icle, ri_icge, r_imul, r_isub, r_vret, kd_0, kd_1, kd_2, kd_3, kd_4, kd_5, ln_0, ln_1, ln_2, ln_3, ln_4, ln_5, Option.some.injEq, Value.int.injEq, Value.ref.injEq, Value.long.injEq, Prod.mk.injEq, exists_eq_left', exists_eq_left, true_and, and_true, mLk, Option.any_some, mC1, Value.category, Option.toList_some, Option.toList_none, List.nil_append, List.cons_append, List.length_cons, List.length_nil, ne_eq, Nat.reduceEqDiff, not_false_eq_true, reduceCtorEq, exists_and_left, exists_and_right, Nat.reduceLeDiff, Nat.reduceAdd, and_self, exists_eq, exists_eq_right, exists_const, eq_self, exists_eq', not_true_eq_false, false_implies, true_implies, implies_true, forall_const, or_true, true_or, false_or, or_false, and_false, false_and, if_true, if_false, ite_true, ite_false, mB, mOk_int, mOk_ref, mOk_null, mOk_long, Nat.reduceLT, Nat.reduceSub, Nat.reduceMul, Nat.reduceDiv, Nat.reduceMod, Classical.not_not, ↓reduceIte, Nat.zero_add, Nat.add_zero, Nat.add_sub_cancel, Bool.false_eq_true, tN_l, tN_m1, tN_n1, tN_n8, tN_dec, tN_dec8, aF_ef, aF_nf, aF_U, tN_lt, tN_le, tN_inj, tN_add, tN_mul, tN_sub, tN_and, tN_or, tN_xor, tN_and31, tN_clamp, tN_in, tN_div, nm_rem, tN_shl, tN_shr, tN_b2, nd_lt, nd_nlt, nd_le, nd_nle, nd_eq, nd_ne, mN_at, mN_U, aU_ne, aU_eq, aU_ne2, e155, ee, mo_30, mw_30]
      · rw [c] at ee
        simp (disch := first | omega | assumption | exact mOk_int | exact mOk_null | exact mOk_ref | (simp (disch := omega) only [aF_ef, aF_nf, aU_ne, aU_eq, aU_ne2]; first | done | omega | assumption)) only [k_154_0, k_154_1, k_154_2, k_154_3, al_0, q_callV0, r_push, ri_iceq, ri_icne, r_dup, q_getI, r_iadd, q_putI, r_goto, is_1, il_1, q_putL, is_2, ri_ifge, r_callS3, ri_ifeq, q_getL, r_lshl, r_i2l, r_lor, ii_2, il_2, ri_icle, ri_icge, r_imul, r_isub, r_vret, kd_0, kd_1, kd_2, kd_3, kd_4, kd_5, ln_0, ln_1, ln_2, ln_3, ln_4, ln_5, Option.some.injEq, Value.int.injEq, Value.ref.injEq, Value.long.injEq, Prod.mk.injEq, exists_eq_left', exists_eq_left, true_and, and_true, mLk, Option.any_some, mC1, Value.category, Option.toList_some, Option.toList_none, List.nil_append, List.cons_append, List.length_cons, List.length_nil, ne_eq, Nat.reduceEqDiff, not_false_eq_true, reduceCtorEq, exists_and_left, exists_and_right, Nat.reduceLeDiff, Nat.reduceAdd, and_self, exists_eq, exists_eq_right, exists_const, eq_self, exists_eq', not_true_eq_false, false_implies, true_implies, implies_true, forall_const, or_true, true_or, false_or, or_false, and_false, false_and, if_true, if_false, ite_true, ite_false, mB, mOk_int, mOk_ref, mOk_null, mOk_long, Nat.reduceLT, Nat.reduceSub, Nat.reduceMul, Nat.reduceDiv, Nat.reduceMod, Classical.not_not, ↓reduceIte, Nat.zero_add, Nat.add_zero, Nat.add_sub_cancel, Bool.false_eq_true, tN_l, tN_m1, tN_n1, tN_n8, tN_dec, tN_dec8, aF_ef, aF_nf, aF_U, tN_lt, tN_le, tN_inj, tN_add, tN_mul, tN_sub, tN_and, tN_or, tN_xor, tN_and31, tN_clamp, tN_in, tN_div, nm_rem, tN_shl, tN_shr, tN_b2, nd_lt, nd_nlt, nd_le, nd_nle, nd_eq, nd_ne, mN_at, mN_U, aU_ne, aU_eq, aU_ne2, e155, ee, mo_30, mw_30]
    · rw [if_neg (fun z => c z.2)]

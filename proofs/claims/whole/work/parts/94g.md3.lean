set_option maxRecDepth 20000
set_option maxHeartbeats 4000000
/-! MODEL: digits -/
theorem nu_b {b : Nat → Nat} {f k : Nat} (h : ∀ i, i < k → 48 ≤ b (f + i) ∧ b (f + i) ≤ 57) : numN b f k < 10 ^ k := by
  induction k with
  | zero => exact Nat.lt_of_lt_of_le Nat.zero_lt_one (Nat.le_refl _)
  | succ k ih =>
    have i1 := ih (fun i hi => h i (by omega))
    obtain ⟨h1, h2⟩ := h k (by omega)
    rw [Nat.pow_succ]
    show numN b f k * 10 + b (f + k) - 48 < 10 ^ k * 10
    omega
theorem nu_3 {b : Nat → Nat} {f k : Nat} (h : ∀ i, i < k → 48 ≤ b (f + i) ∧ b (f + i) ≤ 57) : numN b f (min k 3) ≤ 999 := by
  have h1 : numN b f (min k 3) < 10 ^ (min k 3) := nu_b (fun i hi => h i (by omega))
  have h2 : 10 ^ (min k 3) ≤ 10 ^ 3 := Nat.pow_le_pow_right (by decide) (by omega)
  omega
theorem l_154d {X : mX} {D : Nat} {cap : Nat × Nat} {P : mPost} {G : mG} {A : Nat → Nat → Nat} {b : Nat → Nat} {f g s : Nat} {u1 : Value} (hD : 1 ≤ D) (hL : A 185 31 ≤ 300) (hb : ∀ i, i < A 185 31 → b i < 256 ∧ A 186 i = sb (b i)) : ∀ m k, f + k + m = A 185 31 → (∀ i, i < k → 48 ≤ b (f + i) ∧ b (f + i) ≤ 57) → mW (mCall X D) X cap 154 P 168 [.ref 185, u1, .int (tN k)] [] (mN (moW A (f + k) g s (numN b f (min k 3))), RF, G, mSh) = P none (mN (moW A (rE cyD b (A 185 31) (f + k) m) g (if rE cyD b (A 185 31) (f + k) m - f ≤ 3 then 3 else 1) (numN b f (min (rE cyD b (A 185 31) (f + k) m - f) 3))), RF, G, mSh) := by
  intro m
  induction m with
  | zero =>
    intro k e hk
    have e155 := fun P' => m_155 (X := X) (D := D) (P := P') (G := G) (A := A) (b := b) (a := f + k) (g := g) (s := s) (v := numN b f (min k 3)) hD hL (by omega) hb
    have ee : seB b (A 185 31) (f + k) = 4294967295 := by unfold seB; rw [if_neg (by omega)]
    have e124 := fun P' => m_124 (X := X) (D := D) (P := P') (σ := (mN (moW A (f + k) g s (numN b f (min k 3))), RF, G, mSh)) (v := 4294967295) (lo := 48) (hi := 57) hD (by omega) (by omega) (by omega)
    rw [rE, show f + k - f = k by omega, kh_154_168]
    by_cases c : k ≤ 3
    · rw [if_pos c]
      simp (disch := first | omega | assumption | exact mOk_int | exact mOk_null | exact mOk_ref | (simp (disch := omega) only [aF_ef, aF_nf, aU_ne, aU_eq, aU_ne2]; first | done | omega | assumption)) only [k_154_0, k_154_1, k_154_2, k_154_3, al_0, q_callV0, r_push, ri_iceq, ri_icne, r_dup, q_getI, r_iadd, q_putI, r_goto, is_1, il_1, q_putL, is_2, ri_ifge, r_callS3, ri_ifeq, q_getL, r_lshl, r_i2l, r_lor, ii_2, il_2, ri_icle, ri_icge, r_imul, r_isub, r_vret, kd_0, kd_1, kd_2, kd_3, kd_4, kd_5, ln_0, ln_1, ln_2, ln_3, ln_4, ln_5, Option.some.injEq, Value.int.injEq, Value.ref.injEq, Value.long.injEq, Prod.mk.injEq, exists_eq_left', exists_eq_left, true_and, and_true, mLk, Option.any_some, mC1, Value.category, Option.toList_some, Option.toList_none, List.nil_append, List.cons_append, List.length_cons, List.length_nil, ne_eq, Nat.reduceEqDiff, not_false_eq_true, reduceCtorEq, exists_and_left, exists_and_right, Nat.reduceLeDiff, Nat.reduceAdd, and_self, exists_eq, exists_eq_right, exists_const, eq_self, exists_eq', not_true_eq_false, false_implies, true_implies, implies_true, forall_const, or_true, true_or, false_or, or_false, and_false, false_and, if_true, if_false, ite_true, ite_false, mB, mOk_int, mOk_ref, mOk_null, mOk_long, Nat.reduceLT, Nat.reduceSub, Nat.reduceMul, Nat.reduceDiv, Nat.reduceMod, Classical.not_not, ↓reduceIte, Nat.zero_add, Nat.add_zero, Nat.add_sub_cancel, Bool.false_eq_true, tN_l, tN_m1, tN_n1, tN_n8, tN_dec, tN_dec8, aF_ef, aF_nf, aF_U, tN_lt, tN_le, tN_inj, tN_add, tN_mul, tN_sub, tN_and, tN_or, tN_xor, tN_and31, tN_clamp, tN_in, tN_div, nm_rem, tN_shl, tN_shr, tN_b2, nd_lt, nd_nlt, nd_le, nd_nle, nd_eq, nd_ne, mN_at, mN_U, aU_ne, aU_eq, aU_ne2, e155, ee, e124, mw_33, c]
    · rw [if_neg c]
      simp (disch := first | omega | assumption | exact mOk_int | exact mOk_null | exact mOk_ref | (simp (disch := omega) only [aF_ef, aF_nf, aU_ne, aU_eq, aU_ne2]; first | done | omega | assumption)) only [k_154_0, k_154_1, k_154_2, k_154_3, al_0, q_callV0, r_push, ri_iceq, ri_icne, r_dup, q_getI, r_iadd, q_putI, r_goto, is_1, il_1, q_putL, is_2, ri_ifge, r_callS3, ri_ifeq, q_getL, r_lshl, r_i2l, r_lor, ii_2, il_2, ri_icle, ri_icge, r_imul, r_isub, r_vret, kd_0, kd_1, kd_2, kd_3, kd_4, kd_5, ln_0, ln_1, ln_2, ln_3, ln_4, ln_5, Option.some.injEq, Value.int.injEq, Value.ref.injEq, Value.long.injEq, Prod.mk.injEq, exists_eq_left', exists_eq_left, true_and, and_true, mLk, Option.any_some, mC1, Value.category, Option.toList_some, Option.toList_none, List.nil_append, List.cons_append, List.length_cons, List.length_nil, ne_eq, Nat.reduceEqDiff, not_false_eq_true, reduceCtorEq, exists_and_left, exists_and_right, Nat.reduceLeDiff, Nat.reduceAdd, and_self, exists_eq, exists_eq_right, exists_const, eq_self, exists_eq', not_true_eq_false, false_implies, true_implies, implies_true, forall_const, or_true, true_or, false_or, or_false, and_false, false_and, if_true, if_false, ite_true, ite_false, mB, mOk_int, mOk_ref, mOk_null, mOk_long, Nat.reduceLT, Nat.reduceSub, Nat.reduceMul, Nat.reduceDiv, Nat.reduceMod, Classical.not_not, ↓reduceIte, Nat.zero_add, Nat.add_zero, Nat.add_sub_cancel, Bool.false_eq_true, tN_l, tN_m1, tN_n1, tN_n8, tN_dec, tN_dec8, aF_ef, aF_nf, aF_U, tN_lt, tN_le, tN_inj, tN_add, tN_mul, tN_sub, tN_and, tN_or, tN_xor, tN_and31, tN_clamp, tN_in, tN_div, nm_rem, tN_shl, tN_shr, tN_b2, nd_lt, nd_nlt, nd_le, nd_nle, nd_eq, nd_ne, mN_at, mN_U, aU_ne, aU_eq, aU_ne2, e155, ee, e124, mw_33, c]
  | succ m ih =>
    intro k e hk
    have e155 := fun P' => m_155 (X := X) (D := D) (P := P') (G := G) (A := A) (b := b) (a := f + k) (g := g) (s := s) (v := numN b f (min k 3)) hD hL (by omega) hb
    have ee : seB b (A 185 31) (f + k) = b (f + k) := by unfold seB; rw [if_pos (by omega)]
    obtain ⟨h1, h2⟩ := hb (f + k) (by omega)
    have e124 := fun P' => m_124 (X := X) (D := D) (P := P') (σ := (mN (moW A (f + k) g s (numN b f (min k 3))), RF, G, mSh)) (v := b (f + k)) (lo := 48) (hi := 57) hD (by omega) (by omega) (by omega)
    have n3 := nu_3 hk
    rw [rE]
    by_cases c : cyD (b (f + k)) = true
    · have c' := c
      unfold cyD at c'
      rw [Bool.and_eq_true, decide_eq_true_eq, decide_eq_true_eq] at c'
      have hk' : ∀ i, i < k + 1 → 48 ≤ b (f + i) ∧ b (f + i) ≤ 57 := by
        intro i hi
        by_cases z : i = k
        · rw [z]; exact ⟨c'.1, by omega⟩
        · exact hk i (by omega)
      have i1 := ih (k + 1) (by omega) hk'
      rw [if_pos ⟨by omega, c⟩, show f + k + 1 = f + (k + 1) by omega, ← i1, kh_154_168]
      by_cases d : k < 3
      · rw [show min (k + 1) 3 = min k 3 + 1 by omega]
        have en : numN b f (min k 3 + 1) = 10 * numN b f (min k 3) + b (f + k) - 48 := by
          rw [show min k 3 = k by omega, numN]
          omega
        simp (disch := first | omega | assumption | exact mOk_int | exact mOk_null | exact mOk_ref | (simp (disch := omega) only [aF_ef, aF_nf, aU_ne, aU_eq, aU_ne2]; first | done | omega | assumption)) only [k_154_0, k_154_1, k_154_2, k_154_3, al_0, q_callV0, r_push, ri_iceq, ri_icne, r_dup, q_getI, r_iadd, q_putI, r_goto, is_1, il_1, q_putL, is_2, ri_ifge, r_callS3, ri_ifeq, q_getL, r_lshl, r_i2l, r_lor, ii_2, il_2, ri_icle, ri_icge, r_imul, r_isub, r_vret, kd_0, kd_1, kd_2, kd_3, kd_4, kd_5, ln_0, ln_1, ln_2, ln_3, ln_4, ln_5, Option.some.injEq, Value.int.injEq, Value.ref.injEq, Value.long.injEq, Prod.mk.injEq, exists_eq_left', exists_eq_left, true_and, and_true, mLk, Option.any_some, mC1, Value.category, Option.toList_some, Option.toList_none, List.nil_append, List.cons_append, List.length_cons, List.length_nil, ne_eq, Nat.reduceEqDiff, not_false_eq_true, reduceCtorEq, exists_and_left, exists_and_right, Nat.reduceLeDiff, Nat.reduceAdd, and_self, exists_eq, exists_eq_right, exists_const, eq_self, exists_eq', not_true_eq_false, false_implies, true_implies, implies_true, forall_const, or_true, true_or, false_or, or_false, and_false, false_and, if_true, if_false, ite_true, ite_false, mB, mOk_int, mOk_ref, mOk_null, mOk_long, Nat.reduceLT, Nat.reduceSub, Nat.reduceMul, Nat.reduceDiv, Nat.reduceMod, Classical.not_not, ↓reduceIte, Nat.zero_add, Nat.add_zero, Nat.add_sub_cancel, Bool.false_eq_true, tN_l, tN_m1, tN_n1, tN_n8, tN_dec, tN_dec8, aF_ef, aF_nf, aF_U, tN_lt, tN_le, tN_inj, tN_add, tN_mul, tN_sub, tN_and, tN_or, tN_xor, tN_and31, tN_clamp, tN_in, tN_div, nm_rem, tN_shl, tN_shr, tN_b2, nd_lt, nd_nlt, nd_le, nd_nle, nd_eq, nd_ne, mN_at, mN_U, aU_ne, aU_eq, aU_ne2, e155, ee, e124, c', mo_30, mo_34, mw_30, mw_34, d, en]
        rw [show f + k + 1 = f + (k + 1) by omega]
      · rw [show min (k + 1) 3 = min k 3 by omega]
        simp (disch := first | omega | assumption | exact mOk_int | exact mOk_null | exact mOk_ref | (simp (disch := omega) only [aF_ef, aF_nf, aU_ne, aU_eq, aU_ne2]; first | done | omega | assumption)) only [k_154_0, k_154_1, k_154_2, k_154_3, al_0, q_callV0, r_push, ri_iceq, ri_icne, r_dup, q_getI, r_iadd, q_putI, r_goto, is_1, il_1, q_putL, is_2, ri_ifge, r_callS3, ri_ifeq, q_getL, r_lshl, r_i2l, r_lor, ii_2, il_2, ri_icle, ri_icge, r_imul, r_isub, r_vret, kd_0, kd_1, kd_2, kd_3, kd_4, kd_5, ln_0, ln_1, ln_2, ln_3, ln_4, ln_5, Option.some.injEq, Value.int.injEq, Value.ref.injEq, Value.long.injEq, Prod.mk.injEq, exists_eq_left', exists_eq_left, true_and, and_true, mLk, Option.any_some, mC1, Value.category, Option.toList_some, Option.toList_none, List.nil_append, List.cons_append, List.length_cons, List.length_nil, ne_eq, Nat.reduceEqDiff, not_false_eq_true, reduceCtorEq, exists_and_left, exists_and_right, Nat.reduceLeDiff, Nat.reduceAdd, and_self, exists_eq, exists_eq_right, exists_const, eq_self, exists_eq', not_true_eq_false, false_implies, true_implies, implies_true, forall_const, or_true, true_or, false_or, or_false, and_false, false_and, if_true, if_false, ite_true, ite_false, mB, mOk_int, mOk_ref, mOk_null, mOk_long, Nat.reduceLT, Nat.reduceSub, Nat.reduceMul, Nat.reduceDiv, Nat.reduceMod, Classical.not_not, ↓reduceIte, Nat.zero_add, Nat.add_zero, Nat.add_sub_cancel, Bool.false_eq_true, tN_l, tN_m1, tN_n1, tN_n8, tN_dec, tN_dec8, aF_ef, aF_nf, aF_U, tN_lt, tN_le, tN_inj, tN_add, tN_mul, tN_sub, tN_and, tN_or, tN_xor, tN_and31, tN_clamp, tN_in, tN_div, nm_rem, tN_shl, tN_shr, tN_b2, nd_lt, nd_nlt, nd_le, nd_nle, nd_eq, nd_ne, mN_at, mN_U, aU_ne, aU_eq, aU_ne2, e155, ee, e124, c', mo_30, mo_34, mw_30, mw_34, d]
        rw [show f + k + 1 = f + (k + 1) by omega]
    · rw [if_neg (fun z => c z.2), show f + k - f = k by omega]
      have c' : ¬ (48 ≤ b (f + k) ∧ b (f + k) ≤ 57) := by
        intro z
        apply c
        unfold cyD
        rw [Bool.and_eq_true, decide_eq_true_eq, decide_eq_true_eq]
        omega
      rw [kh_154_168]
      by_cases d : k ≤ 3
      · rw [if_pos d]
        simp (disch := first | omega | assumption | exact mOk_int | exact mOk_null | exact mOk_ref | (simp (disch := omega) only [aF_ef, aF_nf, aU_ne, aU_eq, aU_ne2]; first | done | omega | assumption)) only [k_154_0, k_154_1, k_154_2, k_154_3, al_0, q_callV0, r_push, ri_iceq, ri_icne, r_dup, q_getI, r_iadd, q_putI, r_goto, is_1, il_1, q_putL, is_2, ri_ifge, r_callS3, ri_ifeq, q_getL, r_lshl, r_i2l, r_lor, ii_2, il_2, ri_icle, ri_icge, r_imul, r_isub, r_vret, kd_0, kd_1, kd_2, kd_3, kd_4, kd_5, ln_0, ln_1, ln_2, ln_3, ln_4, ln_5, Option.some.injEq, Value.int.injEq, Value.ref.injEq, Value.long.injEq, Prod.mk.injEq, exists_eq_left', exists_eq_left, true_and, and_true, mLk, Option.any_some, mC1, Value.category, Option.toList_some, Option.toList_none, List.nil_append, List.cons_append, List.length_cons, List.length_nil, ne_eq, Nat.reduceEqDiff, not_false_eq_true, reduceCtorEq, exists_and_left, exists_and_right, Nat.reduceLeDiff, Nat.reduceAdd, and_self, exists_eq, exists_eq_right, exists_const, eq_self, exists_eq', not_true_eq_false, false_implies, true_implies, implies_true, forall_const, or_true, true_or, false_or, or_false, and_false, false_and, if_true, if_false, ite_true, ite_false, mB, mOk_int, mOk_ref, mOk_null, mOk_long, Nat.reduceLT, Nat.reduceSub, Nat.reduceMul, Nat.reduceDiv, Nat.reduceMod, Classical.not_not, ↓reduceIte, Nat.zero_add, Nat.add_zero, Nat.add_sub_cancel, Bool.false_eq_true, tN_l, tN_m1, tN_n1, tN_n8, tN_dec, tN_dec8, aF_ef, aF_nf, aF_U, tN_lt, tN_le, tN_inj, tN_add, tN_mul, tN_sub, tN_and, tN_or, tN_xor, tN_and31, tN_clamp, tN_in, tN_div, nm_rem, tN_shl, tN_shr, tN_b2, nd_lt, nd_nlt, nd_le, nd_nle, nd_eq, nd_ne, mN_at, mN_U, aU_ne, aU_eq, aU_ne2, e155, ee, e124, c', mw_33, d]
      · rw [if_neg d]
        simp (disch := first | omega | assumption | exact mOk_int | exact mOk_null | exact mOk_ref | (simp (disch := omega) only [aF_ef, aF_nf, aU_ne, aU_eq, aU_ne2]; first | done | omega | assumption)) only [k_154_0, k_154_1, k_154_2, k_154_3, al_0, q_callV0, r_push, ri_iceq, ri_icne, r_dup, q_getI, r_iadd, q_putI, r_goto, is_1, il_1, q_putL, is_2, ri_ifge, r_callS3, ri_ifeq, q_getL, r_lshl, r_i2l, r_lor, ii_2, il_2, ri_icle, ri_icge, r_imul, r_isub, r_vret, kd_0, kd_1, kd_2, kd_3, kd_4, kd_5, ln_0, ln_1, ln_2, ln_3, ln_4, ln_5, Option.some.injEq, Value.int.injEq, Value.ref.injEq, Value.long.injEq, Prod.mk.injEq, exists_eq_left', exists_eq_left, true_and, and_true, mLk, Option.any_some, mC1, Value.category, Option.toList_some, Option.toList_none, List.nil_append, List.cons_append, List.length_cons, List.length_nil, ne_eq, Nat.reduceEqDiff, not_false_eq_true, reduceCtorEq, exists_and_left, exists_and_right, Nat.reduceLeDiff, Nat.reduceAdd, and_self, exists_eq, exists_eq_right, exists_const, eq_self, exists_eq', not_true_eq_false, false_implies, true_implies, implies_true, forall_const, or_true, true_or, false_or, or_false, and_false, false_and, if_true, if_false, ite_true, ite_false, mB, mOk_int, mOk_ref, mOk_null, mOk_long, Nat.reduceLT, Nat.reduceSub, Nat.reduceMul, Nat.reduceDiv, Nat.reduceMod, Classical.not_not, ↓reduceIte, Nat.zero_add, Nat.add_zero, Nat.add_sub_cancel, Bool.false_eq_true, tN_l, tN_m1, tN_n1, tN_n8, tN_dec, tN_dec8, aF_ef, aF_nf, aF_U, tN_lt, tN_le, tN_inj, tN_add, tN_mul, tN_sub, tN_and, tN_or, tN_xor, tN_and31, tN_clamp, tN_in, tN_div, nm_rem, tN_shl, tN_shr, tN_b2, nd_lt, nd_nlt, nd_le, nd_nle, nd_eq, nd_ne, mN_at, mN_U, aU_ne, aU_eq, aU_ne2, e155, ee, e124, c', mw_33, d]

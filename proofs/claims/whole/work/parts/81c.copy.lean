set_option maxRecDepth 20000
set_option maxHeartbeats 4000000
/-! CLASS: a state is copied, further -/
theorem c_117_1_119 {X : mX} {D : Nat} {P : mPost} {A : Nat → Nat → Nat} {G : mG} (hD : 1 ≤ D) : mCall X D 117 [.ref 120, .ref 2] (mN A, RF, G, mSh) P = P none (mN (aF (aF (aU A 120 0 (A 2 0)) 121 (cpF 6 (A 3) (A 121))) 122 (cpF 6 (A 4) (A 122))), RF, G, mSh) := by
  rw [e_117 hD]
  simp (disch := first | omega | assumption | exact mOk_int | exact mOk_null | exact mOk_ref | (simp (disch := omega) only [aF_ef, aF_nf, aU_ne, aU_eq, aU_ne2]; first | done | omega | assumption)) only [k_117_0, al_0, al_1, q_getI, q_putI, gq_0, gq_1, gq_2, gq_3, gq_4, r_push, q_acopy, r_vret, kd_0, kd_1, kd_2, kd_3, kd_4, kd_5, ln_0, ln_1, ln_2, ln_3, ln_4, ln_5, Option.some.injEq, Value.int.injEq, Value.ref.injEq, Value.long.injEq, Prod.mk.injEq, exists_eq_left', exists_eq_left, true_and, and_true, mLk, Option.any_some, mC1, Value.category, Option.toList_some, Option.toList_none, List.nil_append, List.cons_append, List.length_cons, List.length_nil, ne_eq, Nat.reduceEqDiff, not_false_eq_true, reduceCtorEq, exists_and_left, exists_and_right, Nat.reduceLeDiff, Nat.reduceAdd, and_self, exists_eq, exists_eq_right, exists_const, eq_self, exists_eq', not_true_eq_false, false_implies, true_implies, implies_true, forall_const, or_true, true_or, false_or, or_false, and_false, false_and, if_true, if_false, ite_true, ite_false, mB, mOk_int, mOk_ref, mOk_null, mOk_long, Nat.reduceLT, Nat.reduceSub, Nat.reduceMul, Nat.reduceDiv, Nat.reduceMod, Classical.not_not, ↓reduceIte, Nat.zero_add, Nat.add_zero, Nat.add_sub_cancel, Bool.false_eq_true, tN_l, tN_m1, tN_n1, tN_n8, tN_dec, tN_dec8, aF_ef, aF_nf, aF_U, tN_lt, tN_le, tN_inj, tN_add, tN_mul, tN_sub, tN_and, tN_or, tN_xor, tN_and31, tN_clamp, tN_in, tN_div, nm_rem, tN_shl, tN_shr, tN_b2, nd_lt, nd_nlt, nd_le, nd_nle, nd_eq, nd_ne, mN_at, mN_U, aU_ne, aU_eq, aU_ne2, cpy_N', aU_nf]
theorem c_118_1_119 {X : mX} {D : Nat} {P : mPost} {A : Nat → Nat → Nat} {G : mG} (hD : 1 ≤ D) : mCall X D 118 [.ref 123, .ref 5] (mN A, RF, G, mSh) P = P none (mN (aF (aF (aF (aF (aU A 123 0 (A 5 0)) 124 (cpF 12 (A 6) (A 124))) 125 (cpF 12 (A 7) (A 125))) 126 (cpF 12 (A 8) (A 126))) 127 (cpF 12 (A 9) (A 127))), RF, G, mSh) := by
  rw [e_118 hD]
  simp (disch := first | omega | assumption | exact mOk_int | exact mOk_null | exact mOk_ref | (simp (disch := omega) only [aF_ef, aF_nf, aU_ne, aU_eq, aU_ne2]; first | done | omega | assumption)) only [k_118_0, al_0, al_1, q_getI, q_putI, gq_0, gq_1, gq_2, gq_3, gq_4, r_push, q_acopy, r_vret, kd_0, kd_1, kd_2, kd_3, kd_4, kd_5, ln_0, ln_1, ln_2, ln_3, ln_4, ln_5, Option.some.injEq, Value.int.injEq, Value.ref.injEq, Value.long.injEq, Prod.mk.injEq, exists_eq_left', exists_eq_left, true_and, and_true, mLk, Option.any_some, mC1, Value.category, Option.toList_some, Option.toList_none, List.nil_append, List.cons_append, List.length_cons, List.length_nil, ne_eq, Nat.reduceEqDiff, not_false_eq_true, reduceCtorEq, exists_and_left, exists_and_right, Nat.reduceLeDiff, Nat.reduceAdd, and_self, exists_eq, exists_eq_right, exists_const, eq_self, exists_eq', not_true_eq_false, false_implies, true_implies, implies_true, forall_const, or_true, true_or, false_or, or_false, and_false, false_and, if_true, if_false, ite_true, ite_false, mB, mOk_int, mOk_ref, mOk_null, mOk_long, Nat.reduceLT, Nat.reduceSub, Nat.reduceMul, Nat.reduceDiv, Nat.reduceMod, Classical.not_not, ↓reduceIte, Nat.zero_add, Nat.add_zero, Nat.add_sub_cancel, Bool.false_eq_true, tN_l, tN_m1, tN_n1, tN_n8, tN_dec, tN_dec8, aF_ef, aF_nf, aF_U, tN_lt, tN_le, tN_inj, tN_add, tN_mul, tN_sub, tN_and, tN_or, tN_xor, tN_and31, tN_clamp, tN_in, tN_div, nm_rem, tN_shl, tN_shr, tN_b2, nd_lt, nd_nlt, nd_le, nd_nle, nd_eq, nd_ne, mN_at, mN_U, aU_ne, aU_eq, aU_ne2, cpy_N', aU_nf]
theorem c_89_1_119 {X : mX} {D : Nat} {P : mPost} {A : Nat → Nat → Nat} {G : mG} (hD : 1 ≤ D) : mCall X D 89 [.ref 148, .ref 30] (mN A, RF, G, mSh) P = P none (mN (aF (aF (aF (aF (aF (aF (aU A 148 0 (A 30 0)) 149 (cpF 12 (A 31) (A 149))) 150 (cpF 12 (A 32) (A 150))) 151 (cpF 48 (A 33) (A 151))) 152 (cpF 48 (A 34) (A 152))) 153 (cpF 48 (A 35) (A 153))) 154 (cpF 48 (A 36) (A 154))), RF, G, mSh) := by
  rw [e_89 hD]
  simp (disch := first | omega | assumption | exact mOk_int | exact mOk_null | exact mOk_ref | (simp (disch := omega) only [aF_ef, aF_nf, aU_ne, aU_eq, aU_ne2]; first | done | omega | assumption)) only [k_89_0, k_89_1, al_0, al_1, q_getI, q_putI, gq_0, gq_1, gq_2, gq_3, gq_4, r_push, q_acopy, r_vret, kd_0, kd_1, kd_2, kd_3, kd_4, kd_5, ln_0, ln_1, ln_2, ln_3, ln_4, ln_5, Option.some.injEq, Value.int.injEq, Value.ref.injEq, Value.long.injEq, Prod.mk.injEq, exists_eq_left', exists_eq_left, true_and, and_true, mLk, Option.any_some, mC1, Value.category, Option.toList_some, Option.toList_none, List.nil_append, List.cons_append, List.length_cons, List.length_nil, ne_eq, Nat.reduceEqDiff, not_false_eq_true, reduceCtorEq, exists_and_left, exists_and_right, Nat.reduceLeDiff, Nat.reduceAdd, and_self, exists_eq, exists_eq_right, exists_const, eq_self, exists_eq', not_true_eq_false, false_implies, true_implies, implies_true, forall_const, or_true, true_or, false_or, or_false, and_false, false_and, if_true, if_false, ite_true, ite_false, mB, mOk_int, mOk_ref, mOk_null, mOk_long, Nat.reduceLT, Nat.reduceSub, Nat.reduceMul, Nat.reduceDiv, Nat.reduceMod, Classical.not_not, ↓reduceIte, Nat.zero_add, Nat.add_zero, Nat.add_sub_cancel, Bool.false_eq_true, tN_l, tN_m1, tN_n1, tN_n8, tN_dec, tN_dec8, aF_ef, aF_nf, aF_U, tN_lt, tN_le, tN_inj, tN_add, tN_mul, tN_sub, tN_and, tN_or, tN_xor, tN_and31, tN_clamp, tN_in, tN_div, nm_rem, tN_shl, tN_shr, tN_b2, nd_lt, nd_nlt, nd_le, nd_nle, nd_eq, nd_ne, mN_at, mN_U, aU_ne, aU_eq, aU_ne2, cpy_N', aU_nf]
theorem c_120_1_119 {X : mX} {D : Nat} {P : mPost} {A : Nat → Nat → Nat} {G : mG} (hD : 1 ≤ D) : mCall X D 120 [.ref 156, .ref 38] (mN A, RF, G, mSh) P = P none (mN (aF (aU A 156 0 (A 38 0)) 157 (cpF 300 (A 39) (A 157))), RF, G, mSh) := by
  rw [e_120 hD]
  simp (disch := first | omega | assumption | exact mOk_int | exact mOk_null | exact mOk_ref | (simp (disch := omega) only [aF_ef, aF_nf, aU_ne, aU_eq, aU_ne2]; first | done | omega | assumption)) only [k_120_0, al_0, al_1, q_getI, q_putI, gq_0, gq_1, gq_2, gq_3, gq_4, r_push, q_acopy, r_vret, kd_0, kd_1, kd_2, kd_3, kd_4, kd_5, ln_0, ln_1, ln_2, ln_3, ln_4, ln_5, Option.some.injEq, Value.int.injEq, Value.ref.injEq, Value.long.injEq, Prod.mk.injEq, exists_eq_left', exists_eq_left, true_and, and_true, mLk, Option.any_some, mC1, Value.category, Option.toList_some, Option.toList_none, List.nil_append, List.cons_append, List.length_cons, List.length_nil, ne_eq, Nat.reduceEqDiff, not_false_eq_true, reduceCtorEq, exists_and_left, exists_and_right, Nat.reduceLeDiff, Nat.reduceAdd, and_self, exists_eq, exists_eq_right, exists_const, eq_self, exists_eq', not_true_eq_false, false_implies, true_implies, implies_true, forall_const, or_true, true_or, false_or, or_false, and_false, false_and, if_true, if_false, ite_true, ite_false, mB, mOk_int, mOk_ref, mOk_null, mOk_long, Nat.reduceLT, Nat.reduceSub, Nat.reduceMul, Nat.reduceDiv, Nat.reduceMod, Classical.not_not, ↓reduceIte, Nat.zero_add, Nat.add_zero, Nat.add_sub_cancel, Bool.false_eq_true, tN_l, tN_m1, tN_n1, tN_n8, tN_dec, tN_dec8, aF_ef, aF_nf, aF_U, tN_lt, tN_le, tN_inj, tN_add, tN_mul, tN_sub, tN_and, tN_or, tN_xor, tN_and31, tN_clamp, tN_in, tN_div, nm_rem, tN_shl, tN_shr, tN_b2, nd_lt, nd_nlt, nd_le, nd_nle, nd_eq, nd_ne, mN_at, mN_U, aU_ne, aU_eq, aU_ne2, cpy_N', aU_nf]
theorem l_119_1_119 {X : mX} {D : Nat} {cap : Nat × Nat} {P : mPost} {G : mG} {A : Nat → Nat → Nat} : ∀ m k, k + m = 12 → mW (mCall X D) X cap 119 P 116 [.ref 128, .ref 10, .int (tN k)] [] (mN (tkA A 18 136 k), RF, G, mSh) = P none (mN (tkA A 18 136 12), RF, G, mSh) := by
  intro m
  induction m with
  | zero =>
    intro k e
    obtain rfl : k = 12 := by omega
    rw [kh_119_116]
    simp (disch := first | omega | assumption | exact mOk_int | exact mOk_null | exact mOk_ref | (simp (disch := omega) only [aF_ef, aF_nf, aU_ne, aU_eq, aU_ne2]; first | done | omega | assumption)) only [k_119_0, k_119_1, al_0, al_1, q_getI, q_putZ, q_putI, gq_0, gq_1, gq_2, gq_3, gq_4, r_push, q_acopy, is_2, il_2, ri_icge, ar_17, ar_57, ar_96, ar_135, ar_164, ar_40_0, ar_40_1, ar_40_2, ii_2, r_goto, r_vret, kd_0, kd_1, kd_2, kd_3, kd_4, kd_5, ln_0, ln_1, ln_2, ln_3, ln_4, ln_5, Option.some.injEq, Value.int.injEq, Value.ref.injEq, Value.long.injEq, Prod.mk.injEq, exists_eq_left', exists_eq_left, true_and, and_true, mLk, Option.any_some, mC1, Value.category, Option.toList_some, Option.toList_none, List.nil_append, List.cons_append, List.length_cons, List.length_nil, ne_eq, Nat.reduceEqDiff, not_false_eq_true, reduceCtorEq, exists_and_left, exists_and_right, Nat.reduceLeDiff, Nat.reduceAdd, and_self, exists_eq, exists_eq_right, exists_const, eq_self, exists_eq', not_true_eq_false, false_implies, true_implies, implies_true, forall_const, or_true, true_or, false_or, or_false, and_false, false_and, if_true, if_false, ite_true, ite_false, mB, mOk_int, mOk_ref, mOk_null, mOk_long, Nat.reduceLT, Nat.reduceSub, Nat.reduceMul, Nat.reduceDiv, Nat.reduceMod, Classical.not_not, ↓reduceIte, Nat.zero_add, Nat.add_zero, Nat.add_sub_cancel, Bool.false_eq_true, tN_l, tN_m1, tN_n1, tN_n8, tN_dec, tN_dec8, aF_ef, aF_nf, aF_U, tN_lt, tN_le, tN_inj, tN_add, tN_mul, tN_sub, tN_and, tN_or, tN_xor, tN_and31, tN_clamp, tN_in, tN_div, nm_rem, tN_shl, tN_shr, tN_b2, nd_lt, nd_nlt, nd_le, nd_nle, nd_eq, nd_ne, mN_at, mN_U, aU_ne, aU_eq, aU_ne2]
  | succ m ih =>
    intro k e
    obtain ⟨w1, w2⟩ := tk_kd (f := 18 + k) (by omega)
    obtain ⟨w3, w4⟩ := tk_kd (f := 136 + k) (by omega)
    rw [← ih (k + 1) (by omega), ← tkA_s (by omega) (by omega), kh_119_116]
    simp (disch := first | omega | assumption | exact mOk_int | exact mOk_null | exact mOk_ref | (simp (disch := omega) only [aF_ef, aF_nf, aU_ne, aU_eq, aU_ne2]; first | done | omega | assumption)) only [k_119_0, k_119_1, al_0, al_1, q_getI, q_putZ, q_putI, gq_0, gq_1, gq_2, gq_3, gq_4, r_push, q_acopy, is_2, il_2, ri_icge, ar_17, ar_57, ar_96, ar_135, ar_164, ar_40_0, ar_40_1, ar_40_2, ii_2, r_goto, r_vret, kd_0, kd_1, kd_2, kd_3, kd_4, kd_5, ln_0, ln_1, ln_2, ln_3, ln_4, ln_5, Option.some.injEq, Value.int.injEq, Value.ref.injEq, Value.long.injEq, Prod.mk.injEq, exists_eq_left', exists_eq_left, true_and, and_true, mLk, Option.any_some, mC1, Value.category, Option.toList_some, Option.toList_none, List.nil_append, List.cons_append, List.length_cons, List.length_nil, ne_eq, Nat.reduceEqDiff, not_false_eq_true, reduceCtorEq, exists_and_left, exists_and_right, Nat.reduceLeDiff, Nat.reduceAdd, and_self, exists_eq, exists_eq_right, exists_const, eq_self, exists_eq', not_true_eq_false, false_implies, true_implies, implies_true, forall_const, or_true, true_or, false_or, or_false, and_false, false_and, if_true, if_false, ite_true, ite_false, mB, mOk_int, mOk_ref, mOk_null, mOk_long, Nat.reduceLT, Nat.reduceSub, Nat.reduceMul, Nat.reduceDiv, Nat.reduceMod, Classical.not_not, ↓reduceIte, Nat.zero_add, Nat.add_zero, Nat.add_sub_cancel, Bool.false_eq_true, tN_l, tN_m1, tN_n1, tN_n8, tN_dec, tN_dec8, aF_ef, aF_nf, aF_U, tN_lt, tN_le, tN_inj, tN_add, tN_mul, tN_sub, tN_and, tN_or, tN_xor, tN_and31, tN_clamp, tN_in, tN_div, nm_rem, tN_shl, tN_shr, tN_b2, nd_lt, nd_nlt, nd_le, nd_nle, nd_eq, nd_ne, mN_at, mN_U, aU_ne, aU_eq, aU_ne2, cpy_N', w1, w2, w3, w4]
theorem c_119_1_119 {X : mX} {D : Nat} {P : mPost} {A : Nat → Nat → Nat} {G : mG} (hD : 1 ≤ D) (hs : A 10 0 ≤ 1) : mCall X D 119 [.ref 128, .ref 10] (mN A, RF, G, mSh) P = P none (mN (tkA (aF (aF (aF (aF (aF (aF (aU (aU (aU A 128 0 (A 10 0)) 128 1 (A 10 1)) 128 2 (A 10 2)) 129 (cpF 12 (A 11) (A 129))) 130 (cpF 6 (A 12) (A 130))) 131 (cpF 6 (A 13) (A 131))) 132 (cpF 12 (A 14) (A 132))) 133 (cpF 12 (A 15) (A 133))) 134 (cpF 12 (A 16) (A 134))) 18 136 12), RF, G, mSh) := by
  have l := l_119_1_119 (X := X) (D := D - 1) (cap := (mSh.length + (mAl 119).fst, mSum mSh + (mAl 119).snd)) (P := P) (G := G) (A := aF (aF (aF (aF (aF (aF (aU (aU (aU A 128 0 (A 10 0)) 128 1 (A 10 1)) 128 2 (A 10 2)) 129 (cpF 12 (A 11) (A 129))) 130 (cpF 6 (A 12) (A 130))) 131 (cpF 6 (A 13) (A 131))) 132 (cpF 12 (A 14) (A 132))) 133 (cpF 12 (A 15) (A 133))) 134 (cpF 12 (A 16) (A 134))) 12 0 (by omega)
  rw [show tkA (aF (aF (aF (aF (aF (aF (aU (aU (aU A 128 0 (A 10 0)) 128 1 (A 10 1)) 128 2 (A 10 2)) 129 (cpF 12 (A 11) (A 129))) 130 (cpF 6 (A 12) (A 130))) 131 (cpF 6 (A 13) (A 131))) 132 (cpF 12 (A 14) (A 132))) 133 (cpF 12 (A 15) (A 133))) 134 (cpF 12 (A 16) (A 134))) 18 136 0 = aF (aF (aF (aF (aF (aF (aU (aU (aU A 128 0 (A 10 0)) 128 1 (A 10 1)) 128 2 (A 10 2)) 129 (cpF 12 (A 11) (A 129))) 130 (cpF 6 (A 12) (A 130))) 131 (cpF 6 (A 13) (A 131))) 132 (cpF 12 (A 14) (A 132))) 133 (cpF 12 (A 15) (A 133))) 134 (cpF 12 (A 16) (A 134)) from funext fun x => tkA_o (by omega)] at l
  rw [e_119 hD]
  simp (disch := first | omega | assumption | exact mOk_int | exact mOk_null | exact mOk_ref | (simp (disch := omega) only [aF_ef, aF_nf, aU_ne, aU_eq, aU_ne2]; first | done | omega | assumption)) only [k_119_0, k_119_1, al_0, al_1, q_getI, q_putZ, q_putI, gq_0, gq_1, gq_2, gq_3, gq_4, r_push, q_acopy, is_2, il_2, ri_icge, ar_17, ar_57, ar_96, ar_135, ar_164, ar_40_0, ar_40_1, ar_40_2, ii_2, r_goto, r_vret, kd_0, kd_1, kd_2, kd_3, kd_4, kd_5, ln_0, ln_1, ln_2, ln_3, ln_4, ln_5, Option.some.injEq, Value.int.injEq, Value.ref.injEq, Value.long.injEq, Prod.mk.injEq, exists_eq_left', exists_eq_left, true_and, and_true, mLk, Option.any_some, mC1, Value.category, Option.toList_some, Option.toList_none, List.nil_append, List.cons_append, List.length_cons, List.length_nil, ne_eq, Nat.reduceEqDiff, not_false_eq_true, reduceCtorEq, exists_and_left, exists_and_right, Nat.reduceLeDiff, Nat.reduceAdd, and_self, exists_eq, exists_eq_right, exists_const, eq_self, exists_eq', not_true_eq_false, false_implies, true_implies, implies_true, forall_const, or_true, true_or, false_or, or_false, and_false, false_and, if_true, if_false, ite_true, ite_false, mOk_int, mOk_ref, mOk_null, mOk_long, Nat.reduceLT, Nat.reduceSub, Nat.reduceMul, Nat.reduceDiv, Nat.reduceMod, Classical.not_not, ↓reduceIte, Nat.zero_add, Nat.add_zero, Nat.add_sub_cancel, Bool.false_eq_true, tN_l, tN_m1, tN_n1, tN_n8, tN_dec, tN_dec8, aF_ef, aF_nf, aF_U, tN_lt, tN_le, tN_inj, tN_add, tN_mul, tN_sub, tN_and, tN_or, tN_xor, tN_and31, tN_clamp, tN_in, tN_div, nm_rem, tN_shl, tN_shr, tN_b2, nd_lt, nd_nlt, nd_le, nd_nle, nd_eq, nd_ne, mN_at, mN_U, aU_ne, aU_eq, aU_ne2, cpy_N', mB_n, aU_nf]
  exact l
theorem c_116_1_119 {X : mX} {D : Nat} {G : mG} {A : Nat → Nat → Nat} (hD : 2 ≤ D) (hs : A 10 0 ≤ 1) : ∃ A' : Nat → Nat → Nat, (∀ j, 1 ≤ j → j < 39 → agC A A' 1 119 j) ∧ A' 119 5 = A 1 5 ∧ A' 119 6 = A 1 6 ∧ (∀ x, (x < 119 ∨ 157 < x) → A' x = A x) ∧ ∀ P, mCall X D 116 [.ref 119, .ref 1] (mN A, RF, G, mSh) P = P none (mN (A'), RF, G, mSh) := by
  have e1 := fun P' => c_117_1_119 (X := X) (D := D - 1) (P := P') (G := G) (A := A) (by omega)
  generalize h1 : aF (aF (aU A 120 0 (A 2 0)) 121 (cpF 6 (A 3) (A 121))) 122 (cpF 6 (A 4) (A 122)) = A1 at e1
  have o1 : ∀ x, (x < 120 ∨ 122 < x) → A1 x = A x := fun x z => by rw [← h1, aF_nf (by omega), aF_nf (by omega), aU_aF, aF_nf (by omega)]
  have e2 := fun P' => c_118_1_119 (X := X) (D := D - 1) (P := P') (G := G) (A := A1) (by omega)
  generalize h2 : aF (aF (aF (aF (aU A1 123 0 (A1 5 0)) 124 (cpF 12 (A1 6) (A1 124))) 125 (cpF 12 (A1 7) (A1 125))) 126 (cpF 12 (A1 8) (A1 126))) 127 (cpF 12 (A1 9) (A1 127)) = A2 at e2
  have o2 : ∀ x, (x < 123 ∨ 127 < x) → A2 x = A1 x := fun x z => by rw [← h2, aF_nf (by omega), aF_nf (by omega), aF_nf (by omega), aF_nf (by omega), aU_aF, aF_nf (by omega)]
  have e3 := fun P' => c_119_1_119 (X := X) (D := D - 1) (P := P') (G := G) (A := A2) (by omega) (by rw [o2 10 (by omega), o1 10 (by omega)]; exact hs)
  generalize h3 : tkA (aF (aF (aF (aF (aF (aF (aU (aU (aU A2 128 0 (A2 10 0)) 128 1 (A2 10 1)) 128 2 (A2 10 2)) 129 (cpF 12 (A2 11) (A2 129))) 130 (cpF 6 (A2 12) (A2 130))) 131 (cpF 6 (A2 13) (A2 131))) 132 (cpF 12 (A2 14) (A2 132))) 133 (cpF 12 (A2 15) (A2 133))) 134 (cpF 12 (A2 16) (A2 134))) 18 136 12 = A3 at e3
  have o3 : ∀ x, (x < 128 ∨ 147 < x) → A3 x = A2 x := fun x z => by rw [← h3, tkA_o (by omega), aF_nf (by omega), aF_nf (by omega), aF_nf (by omega), aF_nf (by omega), aF_nf (by omega), aF_nf (by omega), aU_aF, aU_aF, aU_aF, aF_nf (by omega), aF_nf (by omega), aF_nf (by omega)]
  have e4 := fun P' => c_89_1_119 (X := X) (D := D - 1) (P := P') (G := G) (A := A3) (by omega)
  generalize h4 : aF (aF (aF (aF (aF (aF (aU A3 148 0 (A3 30 0)) 149 (cpF 12 (A3 31) (A3 149))) 150 (cpF 12 (A3 32) (A3 150))) 151 (cpF 48 (A3 33) (A3 151))) 152 (cpF 48 (A3 34) (A3 152))) 153 (cpF 48 (A3 35) (A3 153))) 154 (cpF 48 (A3 36) (A3 154)) = A4 at e4
  have o4 : ∀ x, (x < 148 ∨ 154 < x) → A4 x = A3 x := fun x z => by rw [← h4, aF_nf (by omega), aF_nf (by omega), aF_nf (by omega), aF_nf (by omega), aF_nf (by omega), aF_nf (by omega), aU_aF, aF_nf (by omega)]
  have e5 := fun P' => c_120_1_119 (X := X) (D := D - 1) (P := P') (G := G) (A := A4) (by omega)
  generalize h5 : aF (aU A4 156 0 (A4 38 0)) 157 (cpF 300 (A4 39) (A4 157)) = A5 at e5
  have o5 : ∀ x, (x < 156 ∨ 157 < x) → A5 x = A4 x := fun x z => by rw [← h5, aF_nf (by omega), aU_aF, aF_nf (by omega)]
  have g1 : ∀ x, (x < 119 ∨ 157 < x) → A1 x = A x := fun x z => o1 x (by omega)
  have g2 : ∀ x, (x < 119 ∨ 157 < x) → A2 x = A x := fun x z => by rw [o2 x (by omega), g1 x z]
  have g3 : ∀ x, (x < 119 ∨ 157 < x) → A3 x = A x := fun x z => by rw [o3 x (by omega), g2 x z]
  have g4 : ∀ x, (x < 119 ∨ 157 < x) → A4 x = A x := fun x z => by rw [o4 x (by omega), g3 x z]
  have g5 : ∀ x, (x < 119 ∨ 157 < x) → A5 x = A x := fun x z => by rw [o5 x (by omega), g4 x z]
  have w : ∀ x, x ≠ 119 → aU (aU A5 119 5 (A 1 5)) 119 6 (A 1 6) x = A5 x := fun x z => by rw [aU_aF, aU_aF, aF_nf z, aF_nf z]
  refine ⟨aU (aU A5 119 5 (A 1 5)) 119 6 (A 1 6), fun j hj1 hj => ?_, (aU_ne2 (by decide)).trans aU_eq, aU_eq, fun x hx => by rw [w x (by omega), g5 x hx], fun P => ?_⟩
  · have cs : (j = 36) ∨ (j = 1 ∨ j = 2 ∨ j = 3) ∨ (j = 4 ∨ j = 5 ∨ j = 6 ∨ j = 7 ∨ j = 8) ∨ (j = 9 ∨ j = 10 ∨ j = 11 ∨ j = 12 ∨ j = 13 ∨ j = 14 ∨ j = 15 ∨ j = 16) ∨ (17 ≤ j ∧ j ≤ 28) ∨ (j = 29 ∨ j = 30 ∨ j = 31 ∨ j = 32 ∨ j = 33 ∨ j = 34 ∨ j = 35) ∨ (j = 37 ∨ j = 38) := by omega
    rcases cs with rfl | (rfl | rfl | rfl) | (rfl | rfl | rfl | rfl | rfl) | (rfl | rfl | rfl | rfl | rfl | rfl | rfl | rfl) | ⟨j1, j2⟩ | (rfl | rfl | rfl | rfl | rfl | rfl | rfl) | (rfl | rfl)
    · intro i hi
      have hi : i < 0 := hi
      omega
    · intro i hi
      have hi : i < 1 := hi
      obtain rfl : i = 0 := by omega
      show aU (aU A5 119 5 (A 1 5)) 119 6 (A 1 6) 120 0 = A 2 0
      rw [w 120 (by decide), o5 120 (by omega), o4 120 (by omega), o3 120 (by omega), o2 120 (by omega), ← h1, aF_nf (by decide), aF_nf (by decide), aU_eq]
    · intro i hi
      have hi : i < 6 := hi
      show aU (aU A5 119 5 (A 1 5)) 119 6 (A 1 6) 121 i = A 3 i
      rw [w 121 (by decide), o5 121 (by omega), o4 121 (by omega), o3 121 (by omega), o2 121 (by omega), ← h1, aF_nf (by decide), aF_ef, cpF_in hi]
    · intro i hi
      have hi : i < 6 := hi
      show aU (aU A5 119 5 (A 1 5)) 119 6 (A 1 6) 122 i = A 4 i
      rw [w 122 (by decide), o5 122 (by omega), o4 122 (by omega), o3 122 (by omega), o2 122 (by omega), ← h1, aF_ef, cpF_in hi]
    · intro i hi
      have hi : i < 1 := hi
      obtain rfl : i = 0 := by omega
      show aU (aU A5 119 5 (A 1 5)) 119 6 (A 1 6) 123 0 = A 5 0
      rw [w 123 (by decide), o5 123 (by omega), o4 123 (by omega), o3 123 (by omega), ← h2, aF_nf (by decide), aF_nf (by decide), aF_nf (by decide), aF_nf (by decide), aU_eq, g1 5 (by omega)]
    · intro i hi
      have hi : i < 12 := hi
      show aU (aU A5 119 5 (A 1 5)) 119 6 (A 1 6) 124 i = A 6 i
      rw [w 124 (by decide), o5 124 (by omega), o4 124 (by omega), o3 124 (by omega), ← h2, aF_nf (by decide), aF_nf (by decide), aF_nf (by decide), aF_ef, cpF_in hi, g1 6 (by omega)]
    · intro i hi
      have hi : i < 12 := hi
      show aU (aU A5 119 5 (A 1 5)) 119 6 (A 1 6) 125 i = A 7 i
      rw [w 125 (by decide), o5 125 (by omega), o4 125 (by omega), o3 125 (by omega), ← h2, aF_nf (by decide), aF_nf (by decide), aF_ef, cpF_in hi, g1 7 (by omega)]
    · intro i hi
      have hi : i < 12 := hi
      show aU (aU A5 119 5 (A 1 5)) 119 6 (A 1 6) 126 i = A 8 i
      rw [w 126 (by decide), o5 126 (by omega), o4 126 (by omega), o3 126 (by omega), ← h2, aF_nf (by decide), aF_ef, cpF_in hi, g1 8 (by omega)]
    · intro i hi
      have hi : i < 12 := hi
      show aU (aU A5 119 5 (A 1 5)) 119 6 (A 1 6) 127 i = A 9 i
      rw [w 127 (by decide), o5 127 (by omega), o4 127 (by omega), o3 127 (by omega), ← h2, aF_ef, cpF_in hi, g1 9 (by omega)]
    · intro i hi
      have hi : i < 3 := hi
      show aU (aU A5 119 5 (A 1 5)) 119 6 (A 1 6) 128 i = A 10 i
      rw [w 128 (by decide), o5 128 (by omega), o4 128 (by omega), ← h3, tkA_o (by omega), aF_nf (by decide), aF_nf (by decide), aF_nf (by decide), aF_nf (by decide), aF_nf (by decide), aF_nf (by decide), ← g2 10 (by omega)]
      have : i = 0 ∨ i = 1 ∨ i = 2 := by omega
      rcases this with rfl | rfl | rfl
      · rw [aU_ne2 (by decide), aU_ne2 (by decide), aU_eq]
      · rw [aU_ne2 (by decide), aU_eq]
      · rw [aU_eq]
    · intro i hi
      have hi : i < 12 := hi
      show aU (aU A5 119 5 (A 1 5)) 119 6 (A 1 6) 129 i = A 11 i
      rw [w 129 (by decide), o5 129 (by omega), o4 129 (by omega), ← h3, tkA_o (by omega), aF_nf (by decide), aF_nf (by decide), aF_nf (by decide), aF_nf (by decide), aF_nf (by decide), aF_ef, cpF_in hi, g2 11 (by omega)]
    · intro i hi
      have hi : i < 6 := hi
      show aU (aU A5 119 5 (A 1 5)) 119 6 (A 1 6) 130 i = A 12 i
      rw [w 130 (by decide), o5 130 (by omega), o4 130 (by omega), ← h3, tkA_o (by omega), aF_nf (by decide), aF_nf (by decide), aF_nf (by decide), aF_nf (by decide), aF_ef, cpF_in hi, g2 12 (by omega)]
    · intro i hi
      have hi : i < 6 := hi
      show aU (aU A5 119 5 (A 1 5)) 119 6 (A 1 6) 131 i = A 13 i
      rw [w 131 (by decide), o5 131 (by omega), o4 131 (by omega), ← h3, tkA_o (by omega), aF_nf (by decide), aF_nf (by decide), aF_nf (by decide), aF_ef, cpF_in hi, g2 13 (by omega)]
    · intro i hi
      have hi : i < 12 := hi
      show aU (aU A5 119 5 (A 1 5)) 119 6 (A 1 6) 132 i = A 14 i
      rw [w 132 (by decide), o5 132 (by omega), o4 132 (by omega), ← h3, tkA_o (by omega), aF_nf (by decide), aF_nf (by decide), aF_ef, cpF_in hi, g2 14 (by omega)]
    · intro i hi
      have hi : i < 12 := hi
      show aU (aU A5 119 5 (A 1 5)) 119 6 (A 1 6) 133 i = A 15 i
      rw [w 133 (by decide), o5 133 (by omega), o4 133 (by omega), ← h3, tkA_o (by omega), aF_nf (by decide), aF_ef, cpF_in hi, g2 15 (by omega)]
    · intro i hi
      have hi : i < 12 := hi
      show aU (aU A5 119 5 (A 1 5)) 119 6 (A 1 6) 134 i = A 16 i
      rw [w 134 (by decide), o5 134 (by omega), o4 134 (by omega), ← h3, tkA_o (by omega), aF_ef, cpF_in hi, g2 16 (by omega)]
    · intro i hi
      have hi : i < 0 := hi
      omega
    · intro i hi
      have hi : i < 6 := by
        have : lC j = 6 := by unfold lC; rw [if_neg (by omega), if_neg (by omega), if_neg (by omega), if_neg (by omega), if_neg (by omega), if_neg (by omega), if_neg (by omega), if_neg (by omega), if_neg (by omega), if_neg (by omega), if_pos (by omega)]
        omega
      rw [w (119 + j) (by omega), o5 (119 + j) (by omega), o4 (119 + j) (by omega), ← h3]
      unfold tkA
      rw [if_pos (by omega), cpF_in hi, show 119 + j - 136 + 18 = 1 + j by omega, aF_nf (by omega), aF_nf (by omega), aF_nf (by omega), aF_nf (by omega), aF_nf (by omega), aF_nf (by omega), aU_aF, aU_aF, aU_aF, aF_nf (by omega), aF_nf (by omega), aF_nf (by omega), g2 (1 + j) (by omega)]
    · intro i hi
      have hi : i < 1 := hi
      obtain rfl : i = 0 := by omega
      show aU (aU A5 119 5 (A 1 5)) 119 6 (A 1 6) 148 0 = A 30 0
      rw [w 148 (by decide), o5 148 (by omega), ← h4, aF_nf (by decide), aF_nf (by decide), aF_nf (by decide), aF_nf (by decide), aF_nf (by decide), aF_nf (by decide), aU_eq, g3 30 (by omega)]
    · intro i hi
      have hi : i < 12 := hi
      show aU (aU A5 119 5 (A 1 5)) 119 6 (A 1 6) 149 i = A 31 i
      rw [w 149 (by decide), o5 149 (by omega), ← h4, aF_nf (by decide), aF_nf (by decide), aF_nf (by decide), aF_nf (by decide), aF_nf (by decide), aF_ef, cpF_in hi, g3 31 (by omega)]
    · intro i hi
      have hi : i < 12 := hi
      show aU (aU A5 119 5 (A 1 5)) 119 6 (A 1 6) 150 i = A 32 i
      rw [w 150 (by decide), o5 150 (by omega), ← h4, aF_nf (by decide), aF_nf (by decide), aF_nf (by decide), aF_nf (by decide), aF_ef, cpF_in hi, g3 32 (by omega)]
    · intro i hi
      have hi : i < 48 := hi
      show aU (aU A5 119 5 (A 1 5)) 119 6 (A 1 6) 151 i = A 33 i
      rw [w 151 (by decide), o5 151 (by omega), ← h4, aF_nf (by decide), aF_nf (by decide), aF_nf (by decide), aF_ef, cpF_in hi, g3 33 (by omega)]
    · intro i hi
      have hi : i < 48 := hi
      show aU (aU A5 119 5 (A 1 5)) 119 6 (A 1 6) 152 i = A 34 i
      rw [w 152 (by decide), o5 152 (by omega), ← h4, aF_nf (by decide), aF_nf (by decide), aF_ef, cpF_in hi, g3 34 (by omega)]
    · intro i hi
      have hi : i < 48 := hi
      show aU (aU A5 119 5 (A 1 5)) 119 6 (A 1 6) 153 i = A 35 i
      rw [w 153 (by decide), o5 153 (by omega), ← h4, aF_nf (by decide), aF_ef, cpF_in hi, g3 35 (by omega)]
    · intro i hi
      have hi : i < 48 := hi
      show aU (aU A5 119 5 (A 1 5)) 119 6 (A 1 6) 154 i = A 36 i
      rw [w 154 (by decide), o5 154 (by omega), ← h4, aF_ef, cpF_in hi, g3 36 (by omega)]
    · intro i hi
      have hi : i < 1 := hi
      obtain rfl : i = 0 := by omega
      show aU (aU A5 119 5 (A 1 5)) 119 6 (A 1 6) 156 0 = A 38 0
      rw [w 156 (by decide), ← h5, aF_nf (by decide), aU_eq, g4 38 (by omega)]
    · intro i hi
      have hi : i < 300 := hi
      show aU (aU A5 119 5 (A 1 5)) 119 6 (A 1 6) 157 i = A 39 i
      rw [w 157 (by decide), ← h5, aF_ef, cpF_in hi, g4 39 (by omega)]
  · have z5 := g5 1 (by omega)
    rw [e_116 (by omega)]
    simp (disch := first | omega | assumption | exact mOk_int | exact mOk_null | exact mOk_ref | (simp (disch := omega) only [aF_ef, aF_nf, aU_ne, aU_eq, aU_ne2]; first | done | omega | assumption)) only [k_116_0, al_0, gq_0, gq_1, gq_2, gq_3, gq_4, al_1, q_callV1, q_getI, q_putI, r_vret, kd_0, kd_1, kd_2, kd_3, kd_4, kd_5, ln_0, ln_1, ln_2, ln_3, ln_4, ln_5, Option.some.injEq, Value.int.injEq, Value.ref.injEq, Value.long.injEq, Prod.mk.injEq, exists_eq_left', exists_eq_left, true_and, and_true, mLk, Option.any_some, mC1, Value.category, Option.toList_some, Option.toList_none, List.nil_append, List.cons_append, List.length_cons, List.length_nil, ne_eq, Nat.reduceEqDiff, not_false_eq_true, reduceCtorEq, exists_and_left, exists_and_right, Nat.reduceLeDiff, Nat.reduceAdd, and_self, exists_eq, exists_eq_right, exists_const, eq_self, exists_eq', not_true_eq_false, false_implies, true_implies, implies_true, forall_const, or_true, true_or, false_or, or_false, and_false, false_and, if_true, if_false, ite_true, ite_false, mB, mOk_int, mOk_ref, mOk_null, mOk_long, Nat.reduceLT, Nat.reduceSub, Nat.reduceMul, Nat.reduceDiv, Nat.reduceMod, Classical.not_not, ↓reduceIte, Nat.zero_add, Nat.add_zero, Nat.add_sub_cancel, Bool.false_eq_true, tN_l, tN_m1, tN_n1, tN_n8, tN_dec, tN_dec8, aF_ef, aF_nf, aF_U, tN_lt, tN_le, tN_inj, tN_add, tN_mul, tN_sub, tN_and, tN_or, tN_xor, tN_and31, tN_clamp, tN_in, tN_div, nm_rem, tN_shl, tN_shr, tN_b2, nd_lt, nd_nlt, nd_le, nd_nle, nd_eq, nd_ne, mN_at, mN_U, aU_ne, aU_eq, aU_ne2, e1, e2, e3, e4, e5, z5]

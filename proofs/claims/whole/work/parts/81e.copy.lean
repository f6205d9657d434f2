set_option maxRecDepth 20000
set_option maxHeartbeats 4000000
/-! CLASS: a state is copied, further -/
theorem c_117_80_1 {X : mX} {D : Nat} {P : mPost} {A : Nat → Nat → Nat} {G : mG} (hD : 1 ≤ D) : mCall X D 117 [.ref 2, .ref 81] (mN A, RF, G, mSh) P = P none (mN (aF (aF (aU A 2 0 (A 81 0)) 3 (cpF 6 (A 82) (A 3))) 4 (cpF 6 (A 83) (A 4))), RF, G, mSh) := by
  rw [e_117 hD]
  simp (disch := first | omega | assumption | exact mOk_int | exact mOk_null | exact mOk_ref | (simp (disch := omega) only [aF_ef, aF_nf, aU_ne, aU_eq, aU_ne2]; first | done | omega | assumption)) only [k_117_0, al_0, al_1, q_getI, q_putI, gq_0, gq_1, gq_2, gq_3, gq_4, r_push, q_acopy, r_vret, kd_0, kd_1, kd_2, kd_3, kd_4, kd_5, ln_0, ln_1, ln_2, ln_3, ln_4, ln_5, Option.some.injEq, Value.int.injEq, Value.ref.injEq, Value.long.injEq, Prod.mk.injEq, exists_eq_left', exists_eq_left, true_and, and_true, mLk, Option.any_some, mC1, Value.category, Option.toList_some, Option.toList_none, List.nil_append, List.cons_append, List.length_cons, List.length_nil, ne_eq, Nat.reduceEqDiff, not_false_eq_true, reduceCtorEq, exists_and_left, exists_and_right, Nat.reduceLeDiff, Nat.reduceAdd, and_self, exists_eq, exists_eq_right, exists_const, eq_self, exists_eq', not_true_eq_false, false_implies, true_implies, implies_true, forall_const, or_true, true_or, false_or, or_false, and_false, false_and, if_true, if_false, ite_true, ite_false, mB, mOk_int, mOk_ref, mOk_null, mOk_long, Nat.reduceLT, Nat.reduceSub, Nat.reduceMul, Nat.reduceDiv, Nat.reduceMod, Classical.not_not, ↓reduceIte, Nat.zero_add, Nat.add_zero, Nat.add_sub_cancel, Bool.false_eq_true, tN_l, tN_m1, tN_n1, tN_n8, tN_dec, tN_dec8, aF_ef, aF_nf, aF_U, tN_lt, tN_le, tN_inj, tN_add, tN_mul, tN_sub, tN_and, tN_or, tN_xor, tN_and31, tN_clamp, tN_in, tN_div, nm_rem, tN_shl, tN_shr, tN_b2, nd_lt, nd_nlt, nd_le, nd_nle, nd_eq, nd_ne, mN_at, mN_U, aU_ne, aU_eq, aU_ne2, cpy_N', aU_nf]
theorem c_118_80_1 {X : mX} {D : Nat} {P : mPost} {A : Nat → Nat → Nat} {G : mG} (hD : 1 ≤ D) : mCall X D 118 [.ref 5, .ref 84] (mN A, RF, G, mSh) P = P none (mN (aF (aF (aF (aF (aU A 5 0 (A 84 0)) 6 (cpF 12 (A 85) (A 6))) 7 (cpF 12 (A 86) (A 7))) 8 (cpF 12 (A 87) (A 8))) 9 (cpF 12 (A 88) (A 9))), RF, G, mSh) := by
  rw [e_118 hD]
  simp (disch := first | omega | assumption | exact mOk_int | exact mOk_null | exact mOk_ref | (simp (disch := omega) only [aF_ef, aF_nf, aU_ne, aU_eq, aU_ne2]; first | done | omega | assumption)) only [k_118_0, al_0, al_1, q_getI, q_putI, gq_0, gq_1, gq_2, gq_3, gq_4, r_push, q_acopy, r_vret, kd_0, kd_1, kd_2, kd_3, kd_4, kd_5, ln_0, ln_1, ln_2, ln_3, ln_4, ln_5, Option.some.injEq, Value.int.injEq, Value.ref.injEq, Value.long.injEq, Prod.mk.injEq, exists_eq_left', exists_eq_left, true_and, and_true, mLk, Option.any_some, mC1, Value.category, Option.toList_some, Option.toList_none, List.nil_append, List.cons_append, List.length_cons, List.length_nil, ne_eq, Nat.reduceEqDiff, not_false_eq_true, reduceCtorEq, exists_and_left, exists_and_right, Nat.reduceLeDiff, Nat.reduceAdd, and_self, exists_eq, exists_eq_right, exists_const, eq_self, exists_eq', not_true_eq_false, false_implies, true_implies, implies_true, forall_const, or_true, true_or, false_or, or_false, and_false, false_and, if_true, if_false, ite_true, ite_false, mB, mOk_int, mOk_ref, mOk_null, mOk_long, Nat.reduceLT, Nat.reduceSub, Nat.reduceMul, Nat.reduceDiv, Nat.reduceMod, Classical.not_not, ↓reduceIte, Nat.zero_add, Nat.add_zero, Nat.add_sub_cancel, Bool.false_eq_true, tN_l, tN_m1, tN_n1, tN_n8, tN_dec, tN_dec8, aF_ef, aF_nf, aF_U, tN_lt, tN_le, tN_inj, tN_add, tN_mul, tN_sub, tN_and, tN_or, tN_xor, tN_and31, tN_clamp, tN_in, tN_div, nm_rem, tN_shl, tN_shr, tN_b2, nd_lt, nd_nlt, nd_le, nd_nle, nd_eq, nd_ne, mN_at, mN_U, aU_ne, aU_eq, aU_ne2, cpy_N', aU_nf]
theorem c_89_80_1 {X : mX} {D : Nat} {P : mPost} {A : Nat → Nat → Nat} {G : mG} (hD : 1 ≤ D) : mCall X D 89 [.ref 30, .ref 109] (mN A, RF, G, mSh) P = P none (mN (aF (aF (aF (aF (aF (aF (aU A 30 0 (A 109 0)) 31 (cpF 12 (A 110) (A 31))) 32 (cpF 12 (A 111) (A 32))) 33 (cpF 48 (A 112) (A 33))) 34 (cpF 48 (A 113) (A 34))) 35 (cpF 48 (A 114) (A 35))) 36 (cpF 48 (A 115) (A 36))), RF, G, mSh) := by
  rw [e_89 hD]
  simp (disch := first | omega | assumption | exact mOk_int | exact mOk_null | exact mOk_ref | (simp (disch := omega) only [aF_ef, aF_nf, aU_ne, aU_eq, aU_ne2]; first | done | omega | assumption)) only [k_89_0, k_89_1, al_0, al_1, q_getI, q_putI, gq_0, gq_1, gq_2, gq_3, gq_4, r_push, q_acopy, r_vret, kd_0, kd_1, kd_2, kd_3, kd_4, kd_5, ln_0, ln_1, ln_2, ln_3, ln_4, ln_5, Option.some.injEq, Value.int.injEq, Value.ref.injEq, Value.long.injEq, Prod.mk.injEq, exists_eq_left', exists_eq_left, true_and, and_true, mLk, Option.any_some, mC1, Value.category, Option.toList_some, Option.toList_none, List.nil_append, List.cons_append, List.length_cons, List.length_nil, ne_eq, Nat.reduceEqDiff, not_false_eq_true, reduceCtorEq, exists_and_left, exists_and_right, Nat.reduceLeDiff, Nat.reduceAdd, and_self, exists_eq, exists_eq_right, exists_const, eq_self, exists_eq', not_true_eq_false, false_implies, true_implies, implies_true, forall_const, or_true, true_or, false_or, or_false, and_false, false_and, if_true, if_false, ite_true, ite_false, mB, mOk_int, mOk_ref, mOk_null, mOk_long, Nat.reduceLT, Nat.reduceSub, Nat.reduceMul, Nat.reduceDiv, Nat.reduceMod, Classical.not_not, ↓reduceIte, Nat.zero_add, Nat.add_zero, Nat.add_sub_cancel, Bool.false_eq_true, tN_l, tN_m1, tN_n1, tN_n8, tN_dec, tN_dec8, aF_ef, aF_nf, aF_U, tN_lt, tN_le, tN_inj, tN_add, tN_mul, tN_sub, tN_and, tN_or, tN_xor, tN_and31, tN_clamp, tN_in, tN_div, nm_rem, tN_shl, tN_shr, tN_b2, nd_lt, nd_nlt, nd_le, nd_nle, nd_eq, nd_ne, mN_at, mN_U, aU_ne, aU_eq, aU_ne2, cpy_N', aU_nf]
theorem c_120_80_1 {X : mX} {D : Nat} {P : mPost} {A : Nat → Nat → Nat} {G : mG} (hD : 1 ≤ D) : mCall X D 120 [.ref 38, .ref 117] (mN A, RF, G, mSh) P = P none (mN (aF (aU A 38 0 (A 117 0)) 39 (cpF 300 (A 118) (A 39))), RF, G, mSh) := by
  rw [e_120 hD]
  simp (disch := first | omega | assumption | exact mOk_int | exact mOk_null | exact mOk_ref | (simp (disch := omega) only [aF_ef, aF_nf, aU_ne, aU_eq, aU_ne2]; first | done | omega | assumption)) only [k_120_0, al_0, al_1, q_getI, q_putI, gq_0, gq_1, gq_2, gq_3, gq_4, r_push, q_acopy, r_vret, kd_0, kd_1, kd_2, kd_3, kd_4, kd_5, ln_0, ln_1, ln_2, ln_3, ln_4, ln_5, Option.some.injEq, Value.int.injEq, Value.ref.injEq, Value.long.injEq, Prod.mk.injEq, exists_eq_left', exists_eq_left, true_and, and_true, mLk, Option.any_some, mC1, Value.category, Option.toList_some, Option.toList_none, List.nil_append, List.cons_append, List.length_cons, List.length_nil, ne_eq, Nat.reduceEqDiff, not_false_eq_true, reduceCtorEq, exists_and_left, exists_and_right, Nat.reduceLeDiff, Nat.reduceAdd, and_self, exists_eq, exists_eq_right, exists_const, eq_self, exists_eq', not_true_eq_false, false_implies, true_implies, implies_true, forall_const, or_true, true_or, false_or, or_false, and_false, false_and, if_true, if_false, ite_true, ite_false, mB, mOk_int, mOk_ref, mOk_null, mOk_long, Nat.reduceLT, Nat.reduceSub, Nat.reduceMul, Nat.reduceDiv, Nat.reduceMod, Classical.not_not, ↓reduceIte, Nat.zero_add, Nat.add_zero, Nat.add_sub_cancel, Bool.false_eq_true, tN_l, tN_m1, tN_n1, tN_n8, tN_dec, tN_dec8, aF_ef, aF_nf, aF_U, tN_lt, tN_le, tN_inj, tN_add, tN_mul, tN_sub, tN_and, tN_or, tN_xor, tN_and31, tN_clamp, tN_in, tN_div, nm_rem, tN_shl, tN_shr, tN_b2, nd_lt, nd_nlt, nd_le, nd_nle, nd_eq, nd_ne, mN_at, mN_U, aU_ne, aU_eq, aU_ne2, cpy_N', aU_nf]
theorem l_119_80_1 {X : mX} {D : Nat} {cap : Nat × Nat} {P : mPost} {G : mG} {A : Nat → Nat → Nat} : ∀ m k, k + m = 12 → mW (mCall X D) X cap 119 P 116 [.ref 10, .ref 89, .int (tN k)] [] (mN (tkA A 97 18 k), RF, G, mSh) = P none (mN (tkA A 97 18 12), RF, G, mSh) := by
  intro m
  induction m with
  | zero =>
    intro k e
    obtain rfl : k = 12 := by omega
    rw [kh_119_116]
    simp (disch := first | omega | assumption | exact mOk_int | exact mOk_null | exact mOk_ref | (simp (disch := omega) only [aF_ef, aF_nf, aU_ne, aU_eq, aU_ne2]; first | done | omega | assumption)) only [k_119_0, k_119_1, al_0, al_1, q_getI, q_putZ, q_putI, gq_0, gq_1, gq_2, gq_3, gq_4, r_push, q_acopy, is_2, il_2, ri_icge, ar_17, ar_57, ar_96, ar_135, ar_164, ar_40_0, ar_40_1, ar_40_2, ii_2, r_goto, r_vret, kd_0, kd_1, kd_2, kd_3, kd_4, kd_5, ln_0, ln_1, ln_2, ln_3, ln_4, ln_5, Option.some.injEq, Value.int.injEq, Value.ref.injEq, Value.long.injEq, Prod.mk.injEq, exists_eq_left', exists_eq_left, true_and, and_true, mLk, Option.any_some, mC1, Value.category, Option.toList_some, Option.toList_none, List.nil_append, List.cons_append, List.length_cons, List.length_nil, ne_eq, Nat.reduceEqDiff, not_false_eq_true, reduceCtorEq, exists_and_left, exists_and_right, Nat.reduceLeDiff, Nat.reduceAdd, and_self, exists_eq, exists_eq_right, exists_const, eq_self, exists_eq', not_true_eq_false, false_implies, true_implies, implies_true, forall_const, or_true, true_or, false_or, or_false, and_false, false_and, if_true, if_false, ite_true, ite_false, mB, mOk_int, mOk_ref, mOk_null, mOk_long, Nat.reduceLT, Nat.reduceSub, Nat.reduceMul, Nat.reduceDiv, Nat.reduceMod, Classical.not_not, ↓reduceIte, Nat.zero_add, Nat.add_zero, Nat.add_sub_cancel, Bool.false_eq_true, tN_l, tN_m1, tN_n1, tN_n8, tN_dec, tN_dec8, aF_ef, aF_nf, aF_U, tN_lt, tN_le, tN_inj, tN_add, tN_mul, tN_sub, tN_and, tN_or, tN_xor, tN_and31, tN_clamp, tN_in, tN_div, nm_rem, tN_shl, tN_shr, tN_b2, nd_lt, nd_nlt, nd_le, nd_nle, nd_eq, nd_ne, mN_at, mN_U, aU_ne, aU_eq, aU_ne2]
  | succ m ih =>
    intro k e
    obtain ⟨w1, w2⟩ := tk_kd (f := 97 + k) (by omega)
    obtain ⟨w3, w4⟩ := tk_kd (f := 18 + k) (by omega)
    rw [← ih (k + 1) (by omega), ← tkA_s (by omega) (by omega), kh_119_116]
    simp (disch := first | omega | assumption | exact mOk_int | exact mOk_null | exact mOk_ref | (simp (disch := omega) only [aF_ef, aF_nf, aU_ne, aU_eq, aU_ne2]; first | done | omega | assumption)) only [k_119_0, k_119_1, al_0, al_1, q_getI, q_putZ, q_putI, gq_0, gq_1, gq_2, gq_3, gq_4, r_push, q_acopy, is_2, il_2, ri_icge, ar_17, ar_57, ar_96, ar_135, ar_164, ar_40_0, ar_40_1, ar_40_2, ii_2, r_goto, r_vret, kd_0, kd_1, kd_2, kd_3, kd_4, kd_5, ln_0, ln_1, ln_2, ln_3, ln_4, ln_5, Option.some.injEq, Value.int.injEq, Value.ref.injEq, Value.long.injEq, Prod.mk.injEq, exists_eq_left', exists_eq_left, true_and, and_true, mLk, Option.any_some, mC1, Value.category, Option.toList_some, Option.toList_none, List.nil_append, List.cons_append, List.length_cons, List.length_nil, ne_eq, Nat.reduceEqDiff, not_false_eq_true, reduceCtorEq, exists_and_left, exists_and_right, Nat.reduceLeDiff, Nat.reduceAdd, and_self, exists_eq, exists_eq_right, exists_const, eq_self, exists_eq', not_true_eq_false, false_implies, true_implies, implies_true, forall_const, or_true, true_or, false_or, or_false, and_false, false_and, if_true, if_false, ite_true, ite_false, mB, mOk_int, mOk_ref, mOk_null, mOk_long, Nat.reduceLT, Nat.reduceSub, Nat.reduceMul, Nat.reduceDiv, Nat.reduceMod, Classical.not_not, ↓reduceIte, Nat.zero_add, Nat.add_zero, Nat.add_sub_cancel, Bool.false_eq_true, tN_l, tN_m1, tN_n1, tN_n8, tN_dec, tN_dec8, aF_ef, aF_nf, aF_U, tN_lt, tN_le, tN_inj, tN_add, tN_mul, tN_sub, tN_and, tN_or, tN_xor, tN_and31, tN_clamp, tN_in, tN_div, nm_rem, tN_shl, tN_shr, tN_b2, nd_lt, nd_nlt, nd_le, nd_nle, nd_eq, nd_ne, mN_at, mN_U, aU_ne, aU_eq, aU_ne2, cpy_N', w1, w2, w3, w4]
theorem c_119_80_1 {X : mX} {D : Nat} {P : mPost} {A : Nat → Nat → Nat} {G : mG} (hD : 1 ≤ D) (hs : A 89 0 ≤ 1) : mCall X D 119 [.ref 10, .ref 89] (mN A, RF, G, mSh) P = P none (mN (tkA (aF (aF (aF (aF (aF (aF (aU (aU (aU A 10 0 (A 89 0)) 10 1 (A 89 1)) 10 2 (A 89 2)) 11 (cpF 12 (A 90) (A 11))) 12 (cpF 6 (A 91) (A 12))) 13 (cpF 6 (A 92) (A 13))) 14 (cpF 12 (A 93) (A 14))) 15 (cpF 12 (A 94) (A 15))) 16 (cpF 12 (A 95) (A 16))) 97 18 12), RF, G, mSh) := by
  have l := l_119_80_1 (X := X) (D := D - 1) (cap := (mSh.length + (mAl 119).fst, mSum mSh + (mAl 119).snd)) (P := P) (G := G) (A := aF (aF (aF (aF (aF (aF (aU (aU (aU A 10 0 (A 89 0)) 10 1 (A 89 1)) 10 2 (A 89 2)) 11 (cpF 12 (A 90) (A 11))) 12 (cpF 6 (A 91) (A 12))) 13 (cpF 6 (A 92) (A 13))) 14 (cpF 12 (A 93) (A 14))) 15 (cpF 12 (A 94) (A 15))) 16 (cpF 12 (A 95) (A 16))) 12 0 (by omega)
  rw [show tkA (aF (aF (aF (aF (aF (aF (aU (aU (aU A 10 0 (A 89 0)) 10 1 (A 89 1)) 10 2 (A 89 2)) 11 (cpF 12 (A 90) (A 11))) 12 (cpF 6 (A 91) (A 12))) 13 (cpF 6 (A 92) (A 13))) 14 (cpF 12 (A 93) (A 14))) 15 (cpF 12 (A 94) (A 15))) 16 (cpF 12 (A 95) (A 16))) 97 18 0 = aF (aF (aF (aF (aF (aF (aU (aU (aU A 10 0 (A 89 0)) 10 1 (A 89 1)) 10 2 (A 89 2)) 11 (cpF 12 (A 90) (A 11))) 12 (cpF 6 (A 91) (A 12))) 13 (cpF 6 (A 92) (A 13))) 14 (cpF 12 (A 93) (A 14))) 15 (cpF 12 (A 94) (A 15))) 16 (cpF 12 (A 95) (A 16)) from funext fun x => tkA_o (by omega)] at l
  rw [e_119 hD]
  simp (disch := first | omega | assumption | exact mOk_int | exact mOk_null | exact mOk_ref | (simp (disch := omega) only [aF_ef, aF_nf, aU_ne, aU_eq, aU_ne2]; first | done | omega | assumption)) only [k_119_0, k_119_1, al_0, al_1, q_getI, q_putZ, q_putI, gq_0, gq_1, gq_2, gq_3, gq_4, r_push, q_acopy, is_2, il_2, ri_icge, ar_17, ar_57, ar_96, ar_135, ar_164, ar_40_0, ar_40_1, ar_40_2, ii_2, r_goto, r_vret, kd_0, kd_1, kd_2, kd_3, kd_4, kd_5, ln_0, ln_1, ln_2, ln_3, ln_4, ln_5, Option.some.injEq, Value.int.injEq, Value.ref.injEq, Value.long.injEq, Prod.mk.injEq, exists_eq_left', exists_eq_left, true_and, and_true, mLk, Option.any_some, mC1, Value.category, Option.toList_some, Option.toList_none, List.nil_append, List.cons_append, List.length_cons, List.length_nil, ne_eq, Nat.reduceEqDiff, not_false_eq_true, reduceCtorEq, exists_and_left, exists_and_right, Nat.reduceLeDiff, Nat.reduceAdd, and_self, exists_eq, exists_eq_right, exists_const, eq_self, exists_eq', not_true_eq_false, false_implies, true_implies, implies_true, forall_const, or_true, true_or, false_or, or_false, and_false, false_and, if_true, if_false, ite_true, ite_false, mOk_int, mOk_ref, mOk_null, mOk_long, Nat.reduceLT, Nat.reduceSub, Nat.reduceMul, Nat.reduceDiv, Nat.reduceMod, Classical.not_not, ↓reduceIte, Nat.zero_add, Nat.add_zero, Nat.add_sub_cancel, Bool.false_eq_true, tN_l, tN_m1, tN_n1, tN_n8, tN_dec, tN_dec8, aF_ef, aF_nf, aF_U, tN_lt, tN_le, tN_inj, tN_add, tN_mul, tN_sub, tN_and, tN_or, tN_xor, tN_and31, tN_clamp, tN_in, tN_div, nm_rem, tN_shl, tN_shr, tN_b2, nd_lt, nd_nlt, nd_le, nd_nle, nd_eq, nd_ne, mN_at, mN_U, aU_ne, aU_eq, aU_ne2, cpy_N', mB_n, aU_nf]
  exact l
theorem c_116_80_1 {X : mX} {D : Nat} {G : mG} {A : Nat → Nat → Nat} (hD : 2 ≤ D) (hs : A 89 0 ≤ 1) : ∃ A' : Nat → Nat → Nat, (∀ j, 1 ≤ j → j < 39 → agC A A' 80 1 j) ∧ A' 1 5 = A 80 5 ∧ A' 1 6 = A 80 6 ∧ (∀ x, (x < 1 ∨ 39 < x) → A' x = A x) ∧ ∀ P, mCall X D 116 [.ref 1, .ref 80] (mN A, RF, G, mSh) P = P none (mN (A'), RF, G, mSh) := by
  have e1 := fun P' => c_117_80_1 (X := X) (D := D - 1) (P := P') (G := G) (A := A) (by omega)
  generalize h1 : aF (aF (aU A 2 0 (A 81 0)) 3 (cpF 6 (A 82) (A 3))) 4 (cpF 6 (A 83) (A 4)) = A1 at e1
  have o1 : ∀ x, (x < 2 ∨ 4 < x) → A1 x = A x := fun x z => by rw [← h1, aF_nf (by omega), aF_nf (by omega), aU_aF, aF_nf (by omega)]
  have e2 := fun P' => c_118_80_1 (X := X) (D := D - 1) (P := P') (G := G) (A := A1) (by omega)
  generalize h2 : aF (aF (aF (aF (aU A1 5 0 (A1 84 0)) 6 (cpF 12 (A1 85) (A1 6))) 7 (cpF 12 (A1 86) (A1 7))) 8 (cpF 12 (A1 87) (A1 8))) 9 (cpF 12 (A1 88) (A1 9)) = A2 at e2
  have o2 : ∀ x, (x < 5 ∨ 9 < x) → A2 x = A1 x := fun x z => by rw [← h2, aF_nf (by omega), aF_nf (by omega), aF_nf (by omega), aF_nf (by omega), aU_aF, aF_nf (by omega)]
  have e3 := fun P' => c_119_80_1 (X := X) (D := D - 1) (P := P') (G := G) (A := A2) (by omega) (by rw [o2 89 (by omega), o1 89 (by omega)]; exact hs)
  generalize h3 : tkA (aF (aF (aF (aF (aF (aF (aU (aU (aU A2 10 0 (A2 89 0)) 10 1 (A2 89 1)) 10 2 (A2 89 2)) 11 (cpF 12 (A2 90) (A2 11))) 12 (cpF 6 (A2 91) (A2 12))) 13 (cpF 6 (A2 92) (A2 13))) 14 (cpF 12 (A2 93) (A2 14))) 15 (cpF 12 (A2 94) (A2 15))) 16 (cpF 12 (A2 95) (A2 16))) 97 18 12 = A3 at e3
  have o3 : ∀ x, (x < 10 ∨ 29 < x) → A3 x = A2 x := fun x z => by rw [← h3, tkA_o (by omega), aF_nf (by omega), aF_nf (by omega), aF_nf (by omega), aF_nf (by omega), aF_nf (by omega), aF_nf (by omega), aU_aF, aU_aF, aU_aF, aF_nf (by omega), aF_nf (by omega), aF_nf (by omega)]
  have e4 := fun P' => c_89_80_1 (X := X) (D := D - 1) (P := P') (G := G) (A := A3) (by omega)
  generalize h4 : aF (aF (aF (aF (aF (aF (aU A3 30 0 (A3 109 0)) 31 (cpF 12 (A3 110) (A3 31))) 32 (cpF 12 (A3 111) (A3 32))) 33 (cpF 48 (A3 112) (A3 33))) 34 (cpF 48 (A3 113) (A3 34))) 35 (cpF 48 (A3 114) (A3 35))) 36 (cpF 48 (A3 115) (A3 36)) = A4 at e4
  have o4 : ∀ x, (x < 30 ∨ 36 < x) → A4 x = A3 x := fun x z => by rw [← h4, aF_nf (by omega), aF_nf (by omega), aF_nf (by omega), aF_nf (by omega), aF_nf (by omega), aF_nf (by omega), aU_aF, aF_nf (by omega)]
  have e5 := fun P' => c_120_80_1 (X := X) (D := D - 1) (P := P') (G := G) (A := A4) (by omega)
  generalize h5 : aF (aU A4 38 0 (A4 117 0)) 39 (cpF 300 (A4 118) (A4 39)) = A5 at e5
  have o5 : ∀ x, (x < 38 ∨ 39 < x) → A5 x = A4 x := fun x z => by rw [← h5, aF_nf (by omega), aU_aF, aF_nf (by omega)]
  have g1 : ∀ x, (x < 1 ∨ 39 < x) → A1 x = A x := fun x z => o1 x (by omega)
  have g2 : ∀ x, (x < 1 ∨ 39 < x) → A2 x = A x := fun x z => by rw [o2 x (by omega), g1 x z]
  have g3 : ∀ x, (x < 1 ∨ 39 < x) → A3 x = A x := fun x z => by rw [o3 x (by omega), g2 x z]
  have g4 : ∀ x, (x < 1 ∨ 39 < x) → A4 x = A x := fun x z => by rw [o4 x (by omega), g3 x z]
  have g5 : ∀ x, (x < 1 ∨ 39 < x) → A5 x = A x := fun x z => by rw [o5 x (by omega), g4 x z]
  have w : ∀ x, x ≠ 1 → aU (aU A5 1 5 (A 80 5)) 1 6 (A 80 6) x = A5 x := fun x z => by rw [aU_aF, aU_aF, aF_nf z, aF_nf z]
  refine ⟨aU (aU A5 1 5 (A 80 5)) 1 6 (A 80 6), fun j hj1 hj => ?_, (aU_ne2 (by decide)).trans aU_eq, aU_eq, fun x hx => by rw [w x (by omega), g5 x hx], fun P => ?_⟩
  · have cs : (j = 36) ∨ (j = 1 ∨ j = 2 ∨ j = 3) ∨ (j = 4 ∨ j = 5 ∨ j = 6 ∨ j = 7 ∨ j = 8) ∨ (j = 9 ∨ j = 10 ∨ j = 11 ∨ j = 12 ∨ j = 13 ∨ j = 14 ∨ j = 15 ∨ j = 16) ∨ (17 ≤ j ∧ j ≤ 28) ∨ (j = 29 ∨ j = 30 ∨ j = 31 ∨ j = 32 ∨ j = 33 ∨ j = 34 ∨ j = 35) ∨ (j = 37 ∨ j = 38) := by omega
    rcases cs with rfl | (rfl | rfl | rfl) | (rfl | rfl | rfl | rfl | rfl) | (rfl | rfl | rfl | rfl | rfl | rfl | rfl | rfl) | ⟨j1, j2⟩ | (rfl | rfl | rfl | rfl | rfl | rfl | rfl) | (rfl | rfl)
    · intro i hi
      have hi : i < 0 := hi
      omega
    · intro i hi
      have hi : i < 1 := hi
      obtain rfl : i = 0 := by omega
      show aU (aU A5 1 5 (A 80 5)) 1 6 (A 80 6) 2 0 = A 81 0
      rw [w 2 (by decide), o5 2 (by omega), o4 2 (by omega), o3 2 (by omega), o2 2 (by omega), ← h1, aF_nf (by decide), aF_nf (by decide), aU_eq]
    · intro i hi
      have hi : i < 6 := hi
      show aU (aU A5 1 5 (A 80 5)) 1 6 (A 80 6) 3 i = A 82 i
      rw [w 3 (by decide), o5 3 (by omega), o4 3 (by omega), o3 3 (by omega), o2 3 (by omega), ← h1, aF_nf (by decide), aF_ef, cpF_in hi]
    · intro i hi
      have hi : i < 6 := hi
      show aU (aU A5 1 5 (A 80 5)) 1 6 (A 80 6) 4 i = A 83 i
      rw [w 4 (by decide), o5 4 (by omega), o4 4 (by omega), o3 4 (by omega), o2 4 (by omega), ← h1, aF_ef, cpF_in hi]
    · intro i hi
      have hi : i < 1 := hi
      obtain rfl : i = 0 := by omega
      show aU (aU A5 1 5 (A 80 5)) 1 6 (A 80 6) 5 0 = A 84 0
      rw [w 5 (by decide), o5 5 (by omega), o4 5 (by omega), o3 5 (by omega), ← h2, aF_nf (by decide), aF_nf (by decide), aF_nf (by decide), aF_nf (by decide), aU_eq, g1 84 (by omega)]
    · intro i hi
      have hi : i < 12 := hi
      show aU (aU A5 1 5 (A 80 5)) 1 6 (A 80 6) 6 i = A 85 i
      rw [w 6 (by decide), o5 6 (by omega), o4 6 (by omega), o3 6 (by omega), ← h2, aF_nf (by decide), aF_nf (by decide), aF_nf (by decide), aF_ef, cpF_in hi, g1 85 (by omega)]
    · intro i hi
      have hi : i < 12 := hi
      show aU (aU A5 1 5 (A 80 5)) 1 6 (A 80 6) 7 i = A 86 i
      rw [w 7 (by decide), o5 7 (by omega), o4 7 (by omega), o3 7 (by omega), ← h2, aF_nf (by decide), aF_nf (by decide), aF_ef, cpF_in hi, g1 86 (by omega)]
    · intro i hi
      have hi : i < 12 := hi
      show aU (aU A5 1 5 (A 80 5)) 1 6 (A 80 6) 8 i = A 87 i
      rw [w 8 (by decide), o5 8 (by omega), o4 8 (by omega), o3 8 (by omega), ← h2, aF_nf (by decide), aF_ef, cpF_in hi, g1 87 (by omega)]
    · intro i hi
      have hi : i < 12 := hi
      show aU (aU A5 1 5 (A 80 5)) 1 6 (A 80 6) 9 i = A 88 i
      rw [w 9 (by decide), o5 9 (by omega), o4 9 (by omega), o3 9 (by omega), ← h2, aF_ef, cpF_in hi, g1 88 (by omega)]
    · intro i hi
      have hi : i < 3 := hi
      show aU (aU A5 1 5 (A 80 5)) 1 6 (A 80 6) 10 i = A 89 i
      rw [w 10 (by decide), o5 10 (by omega), o4 10 (by omega), ← h3, tkA_o (by omega), aF_nf (by decide), aF_nf (by decide), aF_nf (by decide), aF_nf (by decide), aF_nf (by decide), aF_nf (by decide), ← g2 89 (by omega)]
      have : i = 0 ∨ i = 1 ∨ i = 2 := by omega
      rcases this with rfl | rfl | rfl
      · rw [aU_ne2 (by decide), aU_ne2 (by decide), aU_eq]
      · rw [aU_ne2 (by decide), aU_eq]
      · rw [aU_eq]
    · intro i hi
      have hi : i < 12 := hi
      show aU (aU A5 1 5 (A 80 5)) 1 6 (A 80 6) 11 i = A 90 i
      rw [w 11 (by decide), o5 11 (by omega), o4 11 (by omega), ← h3, tkA_o (by omega), aF_nf (by decide), aF_nf (by decide), aF_nf (by decide), aF_nf (by decide), aF_nf (by decide), aF_ef, cpF_in hi, g2 90 (by omega)]
    · intro i hi
      have hi : i < 6 := hi
      show aU (aU A5 1 5 (A 80 5)) 1 6 (A 80 6) 12 i = A 91 i
      rw [w 12 (by decide), o5 12 (by omega), o4 12 (by omega), ← h3, tkA_o (by omega), aF_nf (by decide), aF_nf (by decide), aF_nf (by decide), aF_nf (by decide), aF_ef, cpF_in hi, g2 91 (by omega)]
    · intro i hi
      have hi : i < 6 := hi
      show aU (aU A5 1 5 (A 80 5)) 1 6 (A 80 6) 13 i = A 92 i
      rw [w 13 (by decide), o5 13 (by omega), o4 13 (by omega), ← h3, tkA_o (by omega), aF_nf (by decide), aF_nf (by decide), aF_nf (by decide), aF_ef, cpF_in hi, g2 92 (by omega)]
    · intro i hi
      have hi : i < 12 := hi
      show aU (aU A5 1 5 (A 80 5)) 1 6 (A 80 6) 14 i = A 93 i
      rw [w 14 (by decide), o5 14 (by omega), o4 14 (by omega), ← h3, tkA_o (by omega), aF_nf (by decide), aF_nf (by decide), aF_ef, cpF_in hi, g2 93 (by omega)]
    · intro i hi
      have hi : i < 12 := hi
      show aU (aU A5 1 5 (A 80 5)) 1 6 (A 80 6) 15 i = A 94 i
      rw [w 15 (by decide), o5 15 (by omega), o4 15 (by omega), ← h3, tkA_o (by omega), aF_nf (by decide), aF_ef, cpF_in hi, g2 94 (by omega)]
    · intro i hi
      have hi : i < 12 := hi
      show aU (aU A5 1 5 (A 80 5)) 1 6 (A 80 6) 16 i = A 95 i
      rw [w 16 (by decide), o5 16 (by omega), o4 16 (by omega), ← h3, tkA_o (by omega), aF_ef, cpF_in hi, g2 95 (by omega)]
    · intro i hi
      have hi : i < 0 := hi
      omega
    · intro i hi
      have hi : i < 6 := by
        have : lC j = 6 := by unfold lC; rw [if_neg (by omega), if_neg (by omega), if_neg (by omega), if_neg (by omega), if_neg (by omega), if_neg (by omega), if_neg (by omega), if_neg (by omega), if_neg (by omega), if_neg (by omega), if_pos (by omega)]
        omega
      rw [w (1 + j) (by omega), o5 (1 + j) (by omega), o4 (1 + j) (by omega), ← h3]
      unfold tkA
      rw [if_pos (by omega), cpF_in hi, show 1 + j - 18 + 97 = 80 + j by omega, aF_nf (by omega), aF_nf (by omega), aF_nf (by omega), aF_nf (by omega), aF_nf (by omega), aF_nf (by omega), aU_aF, aU_aF, aU_aF, aF_nf (by omega), aF_nf (by omega), aF_nf (by omega), g2 (80 + j) (by omega)]
    · intro i hi
      have hi : i < 1 := hi
      obtain rfl : i = 0 := by omega
      show aU (aU A5 1 5 (A 80 5)) 1 6 (A 80 6) 30 0 = A 109 0
      rw [w 30 (by decide), o5 30 (by omega), ← h4, aF_nf (by decide), aF_nf (by decide), aF_nf (by decide), aF_nf (by decide), aF_nf (by decide), aF_nf (by decide), aU_eq, g3 109 (by omega)]
    · intro i hi
      have hi : i < 12 := hi
      show aU (aU A5 1 5 (A 80 5)) 1 6 (A 80 6) 31 i = A 110 i
      rw [w 31 (by decide), o5 31 (by omega), ← h4, aF_nf (by decide), aF_nf (by decide), aF_nf (by decide), aF_nf (by decide), aF_nf (by decide), aF_ef, cpF_in hi, g3 110 (by omega)]
    · intro i hi
      have hi : i < 12 := hi
      show aU (aU A5 1 5 (A 80 5)) 1 6 (A 80 6) 32 i = A 111 i
      rw [w 32 (by decide), o5 32 (by omega), ← h4, aF_nf (by decide), aF_nf (by decide), aF_nf (by decide), aF_nf (by decide), aF_ef, cpF_in hi, g3 111 (by omega)]
    · intro i hi
      have hi : i < 48 := hi
      show aU (aU A5 1 5 (A 80 5)) 1 6 (A 80 6) 33 i = A 112 i
      rw [w 33 (by decide), o5 33 (by omega), ← h4, aF_nf (by decide), aF_nf (by decide), aF_nf (by decide), aF_ef, cpF_in hi, g3 112 (by omega)]
    · intro i hi
      have hi : i < 48 := hi
      show aU (aU A5 1 5 (A 80 5)) 1 6 (A 80 6) 34 i = A 113 i
      rw [w 34 (by decide), o5 34 (by omega), ← h4, aF_nf (by decide), aF_nf (by decide), aF_ef, cpF_in hi, g3 113 (by omega)]
    · intro i hi
      have hi : i < 48 := hi
      show aU (aU A5 1 5 (A 80 5)) 1 6 (A 80 6) 35 i = A 114 i
      rw [w 35 (by decide), o5 35 (by omega), ← h4, aF_nf (by decide), aF_ef, cpF_in hi, g3 114 (by omega)]
    · intro i hi
      have hi : i < 48 := hi
      show aU (aU A5 1 5 (A 80 5)) 1 6 (A 80 6) 36 i = A 115 i
      rw [w 36 (by decide), o5 36 (by omega), ← h4, aF_ef, cpF_in hi, g3 115 (by omega)]
    · intro i hi
      have hi : i < 1 := hi
      obtain rfl : i = 0 := by omega
      show aU (aU A5 1 5 (A 80 5)) 1 6 (A 80 6) 38 0 = A 117 0
      rw [w 38 (by decide), ← h5, aF_nf (by decide), aU_eq, g4 117 (by omega)]
    · intro i hi
      have hi : i < 300 := hi
      show aU (aU A5 1 5 (A 80 5)) 1 6 (A 80 6) 39 i = A 118 i
      rw [w 39 (by decide), ← h5, aF_ef, cpF_in hi, g4 118 (by omega)]
  · have z5 := g5 80 (by omega)
    rw [e_116 (by omega)]
    simp (disch := first | omega | assumption | exact mOk_int | exact mOk_null | exact mOk_ref | (simp (disch := omega) only [aF_ef, aF_nf, aU_ne, aU_eq, aU_ne2]; first | done | omega | assumption)) only [k_116_0, al_0, gq_0, gq_1, gq_2, gq_3, gq_4, al_1, q_callV1, q_getI, q_putI, r_vret, kd_0, kd_1, kd_2, kd_3, kd_4, kd_5, ln_0, ln_1, ln_2, ln_3, ln_4, ln_5, Option.some.injEq, Value.int.injEq, Value.ref.injEq, Value.long.injEq, Prod.mk.injEq, exists_eq_left', exists_eq_left, true_and, and_true, mLk, Option.any_some, mC1, Value.category, Option.toList_some, Option.toList_none, List.nil_append, List.cons_append, List.length_cons, List.length_nil, ne_eq, Nat.reduceEqDiff, not_false_eq_true, reduceCtorEq, exists_and_left, exists_and_right, Nat.reduceLeDiff, Nat.reduceAdd, and_self, exists_eq, exists_eq_right, exists_const, eq_self, exists_eq', not_true_eq_false, false_implies, true_implies, implies_true, forall_const, or_true, true_or, false_or, or_false, and_false, false_and, if_true, if_false, ite_true, ite_false, mB, mOk_int, mOk_ref, mOk_null, mOk_long, Nat.reduceLT, Nat.reduceSub, Nat.reduceMul, Nat.reduceDiv, Nat.reduceMod, Classical.not_not, ↓reduceIte, Nat.zero_add, Nat.add_zero, Nat.add_sub_cancel, Bool.false_eq_true, tN_l, tN_m1, tN_n1, tN_n8, tN_dec, tN_dec8, aF_ef, aF_nf, aF_U, tN_lt, tN_le, tN_inj, tN_add, tN_mul, tN_sub, tN_and, tN_or, tN_xor, tN_and31, tN_clamp, tN_in, tN_div, nm_rem, tN_shl, tN_shr, tN_b2, nd_lt, nd_nlt, nd_le, nd_nle, nd_eq, nd_ne, mN_at, mN_U, aU_ne, aU_eq, aU_ne2, e1, e2, e3, e4, e5, z5]

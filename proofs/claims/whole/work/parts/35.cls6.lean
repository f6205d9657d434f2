set_option maxRecDepth 20000
set_option maxHeartbeats 4000000
/-! CLASS: the hall is emptied; a trial -/
theorem l_35a {X : mX} {D : Nat} {cap : Nat × Nat} {P : mPost} {G : mG} {B : Nat → Nat → Nat} : ∀ m k u, k + m = 6 → mW (mCall X D) X cap 35 P 26 [.ref 10, .ref 2, .int (tN k)] [] (mN (aF B 13 (fun i => if i < k then 0 else B 13 i)), RF, G, mSh) = mW (mCall X D) X cap 35 P 47 [.ref 10, .ref 2, .int (tN 0)] u (mN (aF B 13 (fun i => if i < 6 then 0 else B 13 i)), RF, G, mSh) ∨ u ≠ [] := by
  intro m
  induction m with
  | zero =>
    intro k u h
    obtain rfl : k = 6 := by omega
    by_cases e : u = []
    · subst e
      left
      rw [kh_35_26]
      simp (disch := first | omega | assumption | exact mOk_int | exact mOk_null | exact mOk_ref | (simp (disch := omega) only [aF_ef, aF_nf, aU_ne, aU_eq, aU_ne2]; first | done | omega | assumption)) only [k_35_0, k_35_1, al_0, r_push, q_putZ, q_putI, al_1, gq_0, gq_1, gq_2, gq_3, gq_4, q_callV1, is_2, il_2, ri_icge, q_iast, ii_2, r_goto, r_vret, kd_0, kd_1, kd_2, kd_3, kd_4, kd_5, ln_0, ln_1, ln_2, ln_3, ln_4, ln_5, Option.some.injEq, Value.int.injEq, Value.ref.injEq, Value.long.injEq, Prod.mk.injEq, exists_eq_left', exists_eq_left, true_and, and_true, mLk, Option.any_some, mC1, Value.category, Option.toList_some, Option.toList_none, List.nil_append, List.cons_append, List.length_cons, List.length_nil, ne_eq, Nat.reduceEqDiff, not_false_eq_true, reduceCtorEq, exists_and_left, exists_and_right, Nat.reduceLeDiff, Nat.reduceAdd, and_self, exists_eq, exists_eq_right, exists_const, eq_self, exists_eq', not_true_eq_false, false_implies, true_implies, implies_true, forall_const, or_true, true_or, false_or, or_false, and_false, false_and, if_true, if_false, ite_true, ite_false, mB, mOk_int, mOk_ref, mOk_null, mOk_long, Nat.reduceLT, Nat.reduceSub, Nat.reduceMul, Nat.reduceDiv, Nat.reduceMod, Classical.not_not, ↓reduceIte, Nat.zero_add, Nat.add_zero, tN_l, tN_m1, tN_n1, tN_n8, aF_ef, aF_nf, aF_U, tN_lt, tN_le, tN_inj, tN_add, tN_mul, tN_sub, tN_and, tN_or, tN_xor, tN_and31, tN_clamp, tN_in, tN_div, nm_rem, tN_shl, tN_shr, tN_b2, nd_lt, nd_nlt, nd_le, nd_nle, nd_eq, nd_ne, mN_at, mN_U, aU_ne, aU_eq, aU_ne2]
    · exact .inr e
  | succ m ih =>
    intro k u h
    by_cases e : u = []
    · subst e
      left
      rcases ih (k + 1) [] (by omega) with q | q
      · rw [kh_35_26]
        simp (disch := first | omega | assumption | exact mOk_int | exact mOk_null | exact mOk_ref | (simp (disch := omega) only [aF_ef, aF_nf, aU_ne, aU_eq, aU_ne2]; first | done | omega | assumption)) only [k_35_0, k_35_1, al_0, r_push, q_putZ, q_putI, al_1, gq_0, gq_1, gq_2, gq_3, gq_4, q_callV1, is_2, il_2, ri_icge, q_iast, ii_2, r_goto, r_vret, kd_0, kd_1, kd_2, kd_3, kd_4, kd_5, ln_0, ln_1, ln_2, ln_3, ln_4, ln_5, Option.some.injEq, Value.int.injEq, Value.ref.injEq, Value.long.injEq, Prod.mk.injEq, exists_eq_left', exists_eq_left, true_and, and_true, mLk, Option.any_some, mC1, Value.category, Option.toList_some, Option.toList_none, List.nil_append, List.cons_append, List.length_cons, List.length_nil, ne_eq, Nat.reduceEqDiff, not_false_eq_true, reduceCtorEq, exists_and_left, exists_and_right, Nat.reduceLeDiff, Nat.reduceAdd, and_self, exists_eq, exists_eq_right, exists_const, eq_self, exists_eq', not_true_eq_false, false_implies, true_implies, implies_true, forall_const, or_true, true_or, false_or, or_false, and_false, false_and, if_true, if_false, ite_true, ite_false, mB, mOk_int, mOk_ref, mOk_null, mOk_long, Nat.reduceLT, Nat.reduceSub, Nat.reduceMul, Nat.reduceDiv, Nat.reduceMod, Classical.not_not, ↓reduceIte, Nat.zero_add, Nat.add_zero, tN_l, tN_m1, tN_n1, tN_n8, aF_ef, aF_nf, aF_U, tN_lt, tN_le, tN_inj, tN_add, tN_mul, tN_sub, tN_and, tN_or, tN_xor, tN_and31, tN_clamp, tN_in, tN_div, nm_rem, tN_shl, tN_shr, tN_b2, nd_lt, nd_nlt, nd_le, nd_nle, nd_eq, nd_ne, mN_at, mN_U, aU_ne, aU_eq, aU_ne2]
        rw [lp_up (g := fun _ => 0) (h := B 13) rfl, q]
      · exact absurd rfl q
    · exact .inr e
theorem l_35b {X : mX} {D : Nat} {cap : Nat × Nat} {P : mPost} {G : mG} {B : Nat → Nat → Nat} : ∀ m k, k + m = 12 → mW (mCall X D) X cap 35 P 47 [.ref 10, .ref 2, .int (tN k)] [] (mN (aF (aF (aF B 14 (fun i => if i < k then 0 else B 14 i)) 15 (fun i => if i < k then 0 else B 15 i)) 16 (fun i => if i < k then 0 else B 16 i)), RF, G, mSh) = P none (mN (aF (aF (aF B 14 (fun i => if i < 12 then 0 else B 14 i)) 15 (fun i => if i < 12 then 0 else B 15 i)) 16 (fun i => if i < 12 then 0 else B 16 i)), RF, G, mSh) := by
  intro m
  induction m with
  | zero =>
    intro k h
    obtain rfl : k = 12 := by omega
    rw [kh_35_47]
    simp (disch := first | omega | assumption | exact mOk_int | exact mOk_null | exact mOk_ref | (simp (disch := omega) only [aF_ef, aF_nf, aU_ne, aU_eq, aU_ne2]; first | done | omega | assumption)) only [k_35_0, k_35_1, al_0, r_push, q_putZ, q_putI, al_1, gq_0, gq_1, gq_2, gq_3, gq_4, q_callV1, is_2, il_2, ri_icge, q_iast, ii_2, r_goto, r_vret, kd_0, kd_1, kd_2, kd_3, kd_4, kd_5, ln_0, ln_1, ln_2, ln_3, ln_4, ln_5, Option.some.injEq, Value.int.injEq, Value.ref.injEq, Value.long.injEq, Prod.mk.injEq, exists_eq_left', exists_eq_left, true_and, and_true, mLk, Option.any_some, mC1, Value.category, Option.toList_some, Option.toList_none, List.nil_append, List.cons_append, List.length_cons, List.length_nil, ne_eq, Nat.reduceEqDiff, not_false_eq_true, reduceCtorEq, exists_and_left, exists_and_right, Nat.reduceLeDiff, Nat.reduceAdd, and_self, exists_eq, exists_eq_right, exists_const, eq_self, exists_eq', not_true_eq_false, false_implies, true_implies, implies_true, forall_const, or_true, true_or, false_or, or_false, and_false, false_and, if_true, if_false, ite_true, ite_false, mB, mOk_int, mOk_ref, mOk_null, mOk_long, Nat.reduceLT, Nat.reduceSub, Nat.reduceMul, Nat.reduceDiv, Nat.reduceMod, Classical.not_not, ↓reduceIte, Nat.zero_add, Nat.add_zero, tN_l, tN_m1, tN_n1, tN_n8, aF_ef, aF_nf, aF_U, tN_lt, tN_le, tN_inj, tN_add, tN_mul, tN_sub, tN_and, tN_or, tN_xor, tN_and31, tN_clamp, tN_in, tN_div, nm_rem, tN_shl, tN_shr, tN_b2, nd_lt, nd_nlt, nd_le, nd_nle, nd_eq, nd_ne, mN_at, mN_U, aU_ne, aU_eq, aU_ne2]
  | succ m ih =>
    intro k h
    have ih' := ih (k + 1) (by omega)
    rw [kh_35_47]
    simp (disch := first | omega | assumption | exact mOk_int | exact mOk_null | exact mOk_ref | (simp (disch := omega) only [aF_ef, aF_nf, aU_ne, aU_eq, aU_ne2]; first | done | omega | assumption)) only [k_35_0, k_35_1, al_0, r_push, q_putZ, q_putI, al_1, gq_0, gq_1, gq_2, gq_3, gq_4, q_callV1, is_2, il_2, ri_icge, q_iast, ii_2, r_goto, r_vret, kd_0, kd_1, kd_2, kd_3, kd_4, kd_5, ln_0, ln_1, ln_2, ln_3, ln_4, ln_5, Option.some.injEq, Value.int.injEq, Value.ref.injEq, Value.long.injEq, Prod.mk.injEq, exists_eq_left', exists_eq_left, true_and, and_true, mLk, Option.any_some, mC1, Value.category, Option.toList_some, Option.toList_none, List.nil_append, List.cons_append, List.length_cons, List.length_nil, ne_eq, Nat.reduceEqDiff, not_false_eq_true, reduceCtorEq, exists_and_left, exists_and_right, Nat.reduceLeDiff, Nat.reduceAdd, and_self, exists_eq, exists_eq_right, exists_const, eq_self, exists_eq', not_true_eq_false, false_implies, true_implies, implies_true, forall_const, or_true, true_or, false_or, or_false, and_false, false_and, if_true, if_false, ite_true, ite_false, mB, mOk_int, mOk_ref, mOk_null, mOk_long, Nat.reduceLT, Nat.reduceSub, Nat.reduceMul, Nat.reduceDiv, Nat.reduceMod, Classical.not_not, ↓reduceIte, Nat.zero_add, Nat.add_zero, tN_l, tN_m1, tN_n1, tN_n8, aF_ef, aF_nf, aF_U, tN_lt, tN_le, tN_inj, tN_add, tN_mul, tN_sub, tN_and, tN_or, tN_xor, tN_and31, tN_clamp, tN_in, tN_div, nm_rem, tN_shl, tN_shr, tN_b2, nd_lt, nd_nlt, nd_le, nd_nle, nd_eq, nd_ne, mN_at, mN_U, aU_ne, aU_eq, aU_ne2, aF_U3]
    rw [lp_up (g := fun _ => 0) (h := B 14) rfl, lp_up (g := fun _ => 0) (h := B 15) rfl, lp_up (g := fun _ => 0) (h := B 16) rfl, ih']
def emA (A : Nat → Nat → Nat) : Nat → Nat → Nat := aF (aF (aF (aF (aF (aU (aU (aU A 10 0 0) 10 1 30) 10 2 0) 12 (fun i => if i < A 2 0 then 1 <<< A 3 i - 1 else A 12 i)) 13 (fun i => if i < 6 then 0 else A 13 i)) 14 (fun i => if i < 12 then 0 else A 14 i)) 15 (fun i => if i < 12 then 0 else A 15 i)) 16 (fun i => if i < 12 then 0 else A 16 i)
theorem c_35 {X : mX} {D : Nat} {P : mPost} {A : Nat → Nat → Nat} {G : mG} (hD : 3 ≤ D) (hr : A 2 0 ≤ 6) (hw : ∀ r, r < A 2 0 → A 3 r ≤ 12) : mCall X D 35 [.ref 10, .ref 2] (mN A, RF, G, mSh) P = P none (mN (emA A), RF, G, mSh) := by
  have e36 := fun P' => c_36 (X := X) (D := D - 1) (P := P') (G := G) (A := aU (aU (aU A 10 0 0) 10 1 30) 10 2 0) (f := 12) (by omega) (by decide +kernel) (by decide +kernel) (by omega) (by omega) (by omega)
  have n3 : aU (aU (aU A 10 0 0) 10 1 30) 10 2 0 3 = A 3 := by
    rw [aU_aF, aU_aF, aU_aF, aF_nf (by omega), aF_nf (by omega), aF_nf (by omega)]
  have n2 : aU (aU (aU A 10 0 0) 10 1 30) 10 2 0 2 = A 2 := by
    rw [aU_aF, aU_aF, aU_aF, aF_nf (by omega), aF_nf (by omega), aF_nf (by omega)]
  have n12 : aU (aU (aU A 10 0 0) 10 1 30) 10 2 0 12 = A 12 := by
    rw [aU_aF, aU_aF, aU_aF, aF_nf (by omega), aF_nf (by omega), aF_nf (by omega)]
  have n13 : aU (aU (aU A 10 0 0) 10 1 30) 10 2 0 13 = A 13 := by
    rw [aU_aF, aU_aF, aU_aF, aF_nf (by omega), aF_nf (by omega), aF_nf (by omega)]
  have n14 : aU (aU (aU A 10 0 0) 10 1 30) 10 2 0 14 = A 14 := by
    rw [aU_aF, aU_aF, aU_aF, aF_nf (by omega), aF_nf (by omega), aF_nf (by omega)]
  have n15 : aU (aU (aU A 10 0 0) 10 1 30) 10 2 0 15 = A 15 := by
    rw [aU_aF, aU_aF, aU_aF, aF_nf (by omega), aF_nf (by omega), aF_nf (by omega)]
  have n16 : aU (aU (aU A 10 0 0) 10 1 30) 10 2 0 16 = A 16 := by
    rw [aU_aF, aU_aF, aU_aF, aF_nf (by omega), aF_nf (by omega), aF_nf (by omega)]
  rw [n2, n3, n12] at e36
  have e36 := fun P' => e36 P' hr hw
  rw [e_35 (by omega)]
  simp (disch := first | omega | assumption | exact mOk_int | exact mOk_null | exact mOk_ref | (simp (disch := omega) only [aF_ef, aF_nf, aU_ne, aU_eq, aU_ne2]; first | done | omega | assumption)) only [k_35_0, k_35_1, al_0, r_push, q_putZ, q_putI, al_1, gq_0, gq_1, gq_2, gq_3, gq_4, q_callV1, is_2, il_2, ri_icge, q_iast, ii_2, r_goto, r_vret, kd_0, kd_1, kd_2, kd_3, kd_4, kd_5, ln_0, ln_1, ln_2, ln_3, ln_4, ln_5, Option.some.injEq, Value.int.injEq, Value.ref.injEq, Value.long.injEq, Prod.mk.injEq, exists_eq_left', exists_eq_left, true_and, and_true, mLk, Option.any_some, mC1, Value.category, Option.toList_some, Option.toList_none, List.nil_append, List.cons_append, List.length_cons, List.length_nil, ne_eq, Nat.reduceEqDiff, not_false_eq_true, reduceCtorEq, exists_and_left, exists_and_right, Nat.reduceLeDiff, Nat.reduceAdd, and_self, exists_eq, exists_eq_right, exists_const, eq_self, exists_eq', not_true_eq_false, false_implies, true_implies, implies_true, forall_const, or_true, true_or, false_or, or_false, and_false, false_and, if_true, if_false, ite_true, ite_false, mB, mOk_int, mOk_ref, mOk_null, mOk_long, Nat.reduceLT, Nat.reduceSub, Nat.reduceMul, Nat.reduceDiv, Nat.reduceMod, Classical.not_not, ↓reduceIte, Nat.zero_add, Nat.add_zero, tN_l, tN_m1, tN_n1, tN_n8, aF_ef, aF_nf, aF_U, tN_lt, tN_le, tN_inj, tN_add, tN_mul, tN_sub, tN_and, tN_or, tN_xor, tN_and31, tN_clamp, tN_in, tN_div, nm_rem, tN_shl, tN_shr, tN_b2, nd_lt, nd_nlt, nd_le, nd_nle, nd_eq, nd_ne, mN_at, mN_U, aU_ne, aU_eq, aU_ne2, e36]
  unfold emA
  generalize aU (aU (aU A 10 0 0) 10 1 30) 10 2 0 = C at *
  have la := l_35a (X := X) (D := D - 1) (cap := (mSh.length + (mAl 35).fst, mSum mSh + (mAl 35).snd)) (P := P) (G := G) (B := aF C 12 (fun i => if i < A 2 0 then 1 <<< A 3 i - 1 else A 12 i)) 6 0 [] (by omega)
  rw [aF_id (c := 13) (fun j => if_neg (by omega)), aF_nf (by omega), n13] at la
  rcases la with q | q
  · rw [q]
    have lb := l_35b (X := X) (D := D - 1) (cap := (mSh.length + (mAl 35).fst, mSum mSh + (mAl 35).snd)) (P := P) (G := G) (B := aF (aF C 12 (fun i => if i < A 2 0 then 1 <<< A 3 i - 1 else A 12 i)) 13 (fun i => if i < 6 then 0 else A 13 i)) 12 0 (by omega)
    rw [aF_id (c := 14) (fun j => if_neg (by omega)), aF_id (c := 15) (fun j => if_neg (by omega)), aF_id (c := 16) (fun j => if_neg (by omega))] at lb
    rw [lb]
    simp (disch := omega) only [aF_nf, n14, n15, n16]
  · exact absurd rfl q
def rnG (pr : Nat → Nat) (nr : Nat) (sz mo pt F0 ord t0 : Nat → Nat) : Nat → Nat → Nat
  | 0 => t0
  | k + 1 => rnT pr nr sz mo pt F0 ord k (rnG pr nr sz mo pt F0 ord t0 k)
theorem l_38 {X : mX} {D : Nat} {cap : Nat × Nat} {P : mPost} {G : mG} {A : Nat → Nat → Nat} {F0 t0 ord : Nat → Nat} (hD : 4 ≤ D) (ok : okA A) (hF : ∀ r, r < A 2 0 → F0 r < 4096) (ho : ∀ k, k < A 5 0 → A 160 k = ord k ∧ ord k < A 5 0) : ∀ m k, k + m = A 5 0 → mW (mCall X D) X cap 38 P 16 [.ref 161, .ref 2, .ref 5, .ref 160, .int (tN (rnS (A 4) (A 2 0) (A 6) (A 7) (A 9) F0 ord k)), .int (tN k)] [] (mN (aF (aF A 165 (rnF (A 4) (A 2 0) (A 6) (A 7) (A 9) F0 ord k)) 163 (rnG (A 4) (A 2 0) (A 6) (A 7) (A 9) F0 ord t0 k)), RF, G, mSh) = P (some (.int (tN (rnS (A 4) (A 2 0) (A 6) (A 7) (A 9) F0 ord (A 5 0))))) (mN (aF (aF A 165 (rnF (A 4) (A 2 0) (A 6) (A 7) (A 9) F0 ord (A 5 0))) 163 (rnG (A 4) (A 2 0) (A 6) (A 7) (A 9) F0 ord t0 (A 5 0))), RF, G, mSh) := by
  obtain ⟨k1, k2, k3, k4, k5⟩ := ok
  intro m
  induction m with
  | zero =>
    intro k h
    obtain rfl : k = A 5 0 := by omega
    rw [kh_38_16]
    simp (disch := first | omega | assumption | exact mOk_int | exact mOk_null | exact mOk_ref | (simp (disch := omega) only [aF_ef, aF_nf, aU_ne, aU_eq, aU_ne2]; first | done | omega | assumption)) only [k_38_0, al_1, al_0, gq_0, gq_1, gq_2, gq_3, gq_4, r_push, ar_17, ar_57, ar_96, ar_135, ar_164, ar_40_0, ar_40_1, ar_40_2, q_callV1, is_4, is_5, il_5, al_2, q_getI, ri_icge, al_3, q_iald, q_callV4, ri_ifle, ii_4, ii_5, r_goto, il_4, r_iret, kd_0, kd_1, kd_2, kd_3, kd_4, kd_5, ln_0, ln_1, ln_2, ln_3, ln_4, ln_5, Option.some.injEq, Value.int.injEq, Value.ref.injEq, Value.long.injEq, Prod.mk.injEq, exists_eq_left', exists_eq_left, true_and, and_true, mLk, Option.any_some, mC1, Value.category, Option.toList_some, Option.toList_none, List.nil_append, List.cons_append, List.length_cons, List.length_nil, ne_eq, Nat.reduceEqDiff, not_false_eq_true, reduceCtorEq, exists_and_left, exists_and_right, Nat.reduceLeDiff, Nat.reduceAdd, and_self, exists_eq, exists_eq_right, exists_const, eq_self, exists_eq', not_true_eq_false, false_implies, true_implies, implies_true, forall_const, or_true, true_or, false_or, or_false, and_false, false_and, if_true, if_false, ite_true, ite_false, mB, mOk_int, mOk_ref, mOk_null, mOk_long, Nat.reduceLT, Nat.reduceSub, Nat.reduceMul, Nat.reduceDiv, Nat.reduceMod, Classical.not_not, ↓reduceIte, Nat.zero_add, Nat.add_zero, tN_l, tN_m1, tN_n1, tN_n8, aF_ef, aF_nf, aF_U, tN_lt, tN_le, tN_inj, tN_add, tN_mul, tN_sub, tN_and, tN_or, tN_xor, tN_and31, tN_clamp, tN_in, tN_div, nm_rem, tN_shl, tN_shr, tN_b2, nd_lt, nd_nlt, nd_le, nd_nle, nd_eq, nd_ne, mN_at, mN_U, aU_ne, aU_eq, aU_ne2]
  | succ m ih =>
    intro k h
    obtain ⟨o1, o2⟩ := ho k (by omega)
    obtain ⟨s1, s2, s3, s4⟩ := k5 _ o2
    have ih' := ih (k + 1) (by omega)
    have e25 := fun P' => c_25 (X := X) (D := D) (P := P') (G := G) (A := aF (aF A 165 (rnF (A 4) (A 2 0) (A 6) (A 7) (A 9) F0 ord k)) 163 (rnG (A 4) (A 2 0) (A 6) (A 7) (A 9) F0 ord t0 k)) (f := 165) (t := 163) (a := ord k) hD (by omega) (by omega) (by omega)
    simp (disch := omega) only [aF_nf, aF_ef, aF_4] at e25
    have e25 := fun P' => e25 P' s1 s2 s3 s4 k1 k3 (fun r hr => rnF_lt (hF r hr) k)
    rw [kh_38_16]
    have hN : rnN (A 4) (A 2 0) (A 6) (A 7) (A 9) F0 ord k ≤ 6 := by
      rcases ttN_le (pr := A 4) (F := rnF (A 4) (A 2 0) (A 6) (A 7) (A 9) F0 ord k) (sz := A 6 (ord k)) (most := A 7 (ord k)) (pt := A 9 (ord k)) (nr := A 2 0) with q | q
      · unfold rnN; omega
      · unfold rnN; omega
    by_cases c : 0 < rnN (A 4) (A 2 0) (A 6) (A 7) (A 9) F0 ord k
    · simp only [rnS, rnF, rnG, c, if_true] at ih'
      unfold rnN at c hN
      unfold rnT at ih'
      simp (disch := first | omega | assumption | exact mOk_int | exact mOk_null | exact mOk_ref | (simp (disch := omega) only [aF_ef, aF_nf, aU_ne, aU_eq, aU_ne2]; first | done | omega | assumption)) only [k_38_0, al_1, al_0, gq_0, gq_1, gq_2, gq_3, gq_4, r_push, ar_17, ar_57, ar_96, ar_135, ar_164, ar_40_0, ar_40_1, ar_40_2, q_callV1, is_4, is_5, il_5, al_2, q_getI, ri_icge, al_3, q_iald, q_callV4, ri_ifle, ii_4, ii_5, r_goto, il_4, r_iret, kd_0, kd_1, kd_2, kd_3, kd_4, kd_5, ln_0, ln_1, ln_2, ln_3, ln_4, ln_5, Option.some.injEq, Value.int.injEq, Value.ref.injEq, Value.long.injEq, Prod.mk.injEq, exists_eq_left', exists_eq_left, true_and, and_true, mLk, Option.any_some, mC1, Value.category, Option.toList_some, Option.toList_none, List.nil_append, List.cons_append, List.length_cons, List.length_nil, ne_eq, Nat.reduceEqDiff, not_false_eq_true, reduceCtorEq, exists_and_left, exists_and_right, Nat.reduceLeDiff, Nat.reduceAdd, and_self, exists_eq, exists_eq_right, exists_const, eq_self, exists_eq', not_true_eq_false, false_implies, true_implies, implies_true, forall_const, or_true, true_or, false_or, or_false, and_false, false_and, if_true, if_false, ite_true, ite_false, mB, mOk_int, mOk_ref, mOk_null, mOk_long, Nat.reduceLT, Nat.reduceSub, Nat.reduceMul, Nat.reduceDiv, Nat.reduceMod, Classical.not_not, ↓reduceIte, Nat.zero_add, Nat.add_zero, tN_l, tN_m1, tN_n1, tN_n8, aF_ef, aF_nf, aF_U, tN_lt, tN_le, tN_inj, tN_add, tN_mul, tN_sub, tN_and, tN_or, tN_xor, tN_and31, tN_clamp, tN_in, tN_div, nm_rem, tN_shl, tN_shr, tN_b2, nd_lt, nd_nlt, nd_le, nd_nle, nd_eq, nd_ne, mN_at, mN_U, aU_ne, aU_eq, aU_ne2, o1, e25, c]
      exact ih'
    · simp only [rnS, rnF, rnG, c, if_false] at ih'
      unfold rnN at c hN
      unfold rnT at ih'
      simp (disch := first | omega | assumption | exact mOk_int | exact mOk_null | exact mOk_ref | (simp (disch := omega) only [aF_ef, aF_nf, aU_ne, aU_eq, aU_ne2]; first | done | omega | assumption)) only [k_38_0, al_1, al_0, gq_0, gq_1, gq_2, gq_3, gq_4, r_push, ar_17, ar_57, ar_96, ar_135, ar_164, ar_40_0, ar_40_1, ar_40_2, q_callV1, is_4, is_5, il_5, al_2, q_getI, ri_icge, al_3, q_iald, q_callV4, ri_ifle, ii_4, ii_5, r_goto, il_4, r_iret, kd_0, kd_1, kd_2, kd_3, kd_4, kd_5, ln_0, ln_1, ln_2, ln_3, ln_4, ln_5, Option.some.injEq, Value.int.injEq, Value.ref.injEq, Value.long.injEq, Prod.mk.injEq, exists_eq_left', exists_eq_left, true_and, and_true, mLk, Option.any_some, mC1, Value.category, Option.toList_some, Option.toList_none, List.nil_append, List.cons_append, List.length_cons, List.length_nil, ne_eq, Nat.reduceEqDiff, not_false_eq_true, reduceCtorEq, exists_and_left, exists_and_right, Nat.reduceLeDiff, Nat.reduceAdd, and_self, exists_eq, exists_eq_right, exists_const, eq_self, exists_eq', not_true_eq_false, false_implies, true_implies, implies_true, forall_const, or_true, true_or, false_or, or_false, and_false, false_and, if_true, if_false, ite_true, ite_false, mB, mOk_int, mOk_ref, mOk_null, mOk_long, Nat.reduceLT, Nat.reduceSub, Nat.reduceMul, Nat.reduceDiv, Nat.reduceMod, Classical.not_not, ↓reduceIte, Nat.zero_add, Nat.add_zero, tN_l, tN_m1, tN_n1, tN_n8, aF_ef, aF_nf, aF_U, tN_lt, tN_le, tN_inj, tN_add, tN_mul, tN_sub, tN_and, tN_or, tN_xor, tN_and31, tN_clamp, tN_in, tN_div, nm_rem, tN_shl, tN_shr, tN_b2, nd_lt, nd_nlt, nd_le, nd_nle, nd_eq, nd_ne, mN_at, mN_U, aU_ne, aU_eq, aU_ne2, o1, e25, c]
      exact ih'
theorem full_lt {w : Nat} : 1 <<< w - 1 < 2 ^ w := by
  rw [Nat.one_shiftLeft]
  have := Nat.one_le_two_pow (n := w)
  omega
theorem c_38 {X : mX} {D : Nat} {P : mPost} {A : Nat → Nat → Nat} {G : mG} {ord : Nat → Nat} (hD : 5 ≤ D) (ok : okA A) (ho : ∀ k, k < A 5 0 → A 160 k = ord k ∧ ord k < A 5 0) : mCall X D 38 [.ref 161, .ref 2, .ref 5, .ref 160] (mN A, RF, G, mSh) P = P (some (.int (tN (rnS (A 4) (A 2 0) (A 6) (A 7) (A 9) (fun i => if i < A 2 0 then 1 <<< A 3 i - 1 else A 165 i) ord (A 5 0))))) (mN (aF (aF A 165 (rnF (A 4) (A 2 0) (A 6) (A 7) (A 9) (fun i => if i < A 2 0 then 1 <<< A 3 i - 1 else A 165 i) ord (A 5 0))) 163 (rnG (A 4) (A 2 0) (A 6) (A 7) (A 9) (fun i => if i < A 2 0 then 1 <<< A 3 i - 1 else A 165 i) ord (A 163) (A 5 0))), RF, G, mSh) := by
  have e36 := fun P' => c_36 (X := X) (D := D - 1) (P := P') (G := G) (A := A) (f := 165) (by omega) (by decide +kernel) (by decide +kernel) (by omega) (by omega) (by omega) ok.1 ok.2.1
  rw [e_38 (by omega)]
  simp (disch := first | omega | assumption | exact mOk_int | exact mOk_null | exact mOk_ref | (simp (disch := omega) only [aF_ef, aF_nf, aU_ne, aU_eq, aU_ne2]; first | done | omega | assumption)) only [k_38_0, al_1, al_0, gq_0, gq_1, gq_2, gq_3, gq_4, r_push, ar_17, ar_57, ar_96, ar_135, ar_164, ar_40_0, ar_40_1, ar_40_2, q_callV1, is_4, is_5, il_5, al_2, q_getI, ri_icge, al_3, q_iald, q_callV4, ri_ifle, ii_4, ii_5, r_goto, il_4, r_iret, kd_0, kd_1, kd_2, kd_3, kd_4, kd_5, ln_0, ln_1, ln_2, ln_3, ln_4, ln_5, Option.some.injEq, Value.int.injEq, Value.ref.injEq, Value.long.injEq, Prod.mk.injEq, exists_eq_left', exists_eq_left, true_and, and_true, mLk, Option.any_some, mC1, Value.category, Option.toList_some, Option.toList_none, List.nil_append, List.cons_append, List.length_cons, List.length_nil, ne_eq, Nat.reduceEqDiff, not_false_eq_true, reduceCtorEq, exists_and_left, exists_and_right, Nat.reduceLeDiff, Nat.reduceAdd, and_self, exists_eq, exists_eq_right, exists_const, eq_self, exists_eq', not_true_eq_false, false_implies, true_implies, implies_true, forall_const, or_true, true_or, false_or, or_false, and_false, false_and, if_true, if_false, ite_true, ite_false, mB, mOk_int, mOk_ref, mOk_null, mOk_long, Nat.reduceLT, Nat.reduceSub, Nat.reduceMul, Nat.reduceDiv, Nat.reduceMod, Classical.not_not, ↓reduceIte, Nat.zero_add, Nat.add_zero, tN_l, tN_m1, tN_n1, tN_n8, aF_ef, aF_nf, aF_U, tN_lt, tN_le, tN_inj, tN_add, tN_mul, tN_sub, tN_and, tN_or, tN_xor, tN_and31, tN_clamp, tN_in, tN_div, nm_rem, tN_shl, tN_shr, tN_b2, nd_lt, nd_nlt, nd_le, nd_nle, nd_eq, nd_ne, mN_at, mN_U, aU_ne, aU_eq, aU_ne2, e36]
  have := l_38 (X := X) (D := D - 1) (cap := (mSh.length + (mAl 38).fst, mSum mSh + (mAl 38).snd)) (P := P) (G := G) (A := A) (F0 := fun i => if i < A 2 0 then 1 <<< A 3 i - 1 else A 165 i) (t0 := A 163) (ord := ord) (by omega) ok (fun r hr => by rw [if_pos hr]; exact pw_4096 (ok.2.1 r hr) full_lt) ho (A 5 0) 0 (by omega)
  rw [show rnG (A 4) (A 2 0) (A 6) (A 7) (A 9) (fun i => if i < A 2 0 then 1 <<< A 3 i - 1 else A 165 i) ord (A 163) 0 = A 163 from rfl, aF_id (c := 163) (fun j => by rw [aF_nf (by omega)])] at this
  exact this

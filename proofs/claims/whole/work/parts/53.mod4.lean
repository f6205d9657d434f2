set_option maxRecDepth 20000
set_option maxHeartbeats 4000000
/-! MODEL: a turn, whole -/
def ptA (A : Nat → Nat → Nat) (h a : Nat) (T : Nat → Nat) (k : Nat) : Nat → Nat → Nat := aF (aF (aF A 211 (oSet (A 211) (posN h T) a k)) 213 (fun i => if 6 * (12 * h + a) ≤ i ∧ i < 6 * (12 * h + a) + k then T (i - 6 * (12 * h + a)) else A 213 i)) 212 (up (A 212) (12 * h + a) k)
theorem ptA_o {A : Nat → Nat → Nat} {h a k c : Nat} {T : Nat → Nat} (h1 : c ≠ 211) (h2 : c ≠ 212) (h3 : c ≠ 213) : ptA A h a T k c = A c := by
  unfold ptA
  rw [aF_nf h2, aF_nf h3, aF_nf h1]
theorem ptA_211 {A : Nat → Nat → Nat} {h a k : Nat} {T : Nat → Nat} : ptA A h a T k 211 = oSet (A 211) (posN h T) a k := by
  unfold ptA
  rw [aF_nf (by decide), aF_nf (by decide), aF_ef]
theorem ptA_212 {A : Nat → Nat → Nat} {h a k : Nat} {T : Nat → Nat} : ptA A h a T k 212 = up (A 212) (12 * h + a) k := by
  unfold ptA
  rw [aF_ef]
theorem ptA_213 {A : Nat → Nat → Nat} {h a k : Nat} {T : Nat → Nat} : ptA A h a T k 213 = fun i => if 6 * (12 * h + a) ≤ i ∧ i < 6 * (12 * h + a) + k then T (i - 6 * (12 * h + a)) else A 213 i := by
  unfold ptA
  rw [aF_nf (by decide), aF_ef]
theorem aF_6 {A : Nat → Nat → Nat} {g1 g2 g3 k1 k2 k3 : Nat → Nat} : aF (aF (aF (aF (aF (aF A 211 g1) 213 g2) 212 g3) 211 k1) 213 k2) 212 k3 = aF (aF (aF A 211 k1) 213 k2) 212 k3 := by
  funext c i
  unfold aF
  by_cases e1 : c = 212
  · simp only [e1, if_true]
  · by_cases e2 : c = 213
    · simp only [e2, if_true, show ¬ (213 : Nat) = 212 by decide, if_false]
    · by_cases e3 : c = 211
      · simp only [e3, if_true, show ¬ (211 : Nat) = 212 by decide, show ¬ (211 : Nat) = 213 by decide, if_false]
      · simp only [e1, e2, e3, if_false]
theorem ptA_st {A : Nat → Nat → Nat} {h a k : Nat} {T : Nat → Nat} : stA (ptA A h a T k) h a (T k) 1 = ptA A h a T (k + 1) := by
  have e212 : ptA A h a T k 212 (12 * h + a) = k := by rw [ptA_212, up_eq]
  have l : stA (ptA A h a T k) h a (T k) 1 = aF (aF (aF (ptA A h a T k) 211 (oSet (A 211) (posN h T) a (k + 1))) 213 (fun i => if 6 * (12 * h + a) ≤ i ∧ i < 6 * (12 * h + a) + (k + 1) then T (i - 6 * (12 * h + a)) else A 213 i)) 212 (up (A 212) (12 * h + a) (k + 1)) := by
    unfold stA
    rw [e212, ptA_211, ptA_212, ptA_213, up_up]
    congr 1
    congr 1
    · congr 1
      funext i
      show _ = up (oSet (A 211) (posN h T) a k) (posN h T k) a i
      unfold up
      by_cases e : i = posN h T k
      · rw [if_pos e, if_pos (by unfold posN at e; omega)]
      · rw [if_neg e, if_neg (by unfold posN at e; omega)]
    · funext i
      by_cases e1 : i = 6 * (12 * h + a) + k
      · rw [if_pos (by omega), if_pos (by omega), e1, Nat.sub_self, Nat.add_zero, Nat.add_sub_cancel_left]
      · rw [if_neg (by omega)]
        show (if 6 * (12 * h + a) ≤ i ∧ i < 6 * (12 * h + a) + k then T (i - 6 * (12 * h + a)) else A 213 i) = _
        by_cases e2 : 6 * (12 * h + a) ≤ i ∧ i < 6 * (12 * h + a) + k
        · rw [if_pos e2, if_pos (by omega)]
        · rw [if_neg e2, if_neg (by omega)]
  rw [l]
  unfold ptA
  exact aF_6
theorem ml_133b {X : mX} {D : Nat} {cap : Nat × Nat} {P : mPost} {G : mG} {A : Nat → Nat → Nat} {h a p al : Nat} {F : Nat → Nat} (hD : 4 ≤ D) (hh : h ≤ 4) (ha : a < 12) (hnr : A 190 0 ≤ 6) (hs : A 194 a ≤ 6) (hm : A 195 a ≤ 999) (hw : ∀ r, r < A 190 0 → 1 ≤ A 191 r ∧ A 191 r ≤ 12) (ho : ∀ r, r < A 190 0 → oRow A h r (F r)) (hp : ∀ r, r < A 190 0 → A 192 r ≤ 999) (he : A 194 a ≤ fut (A 192) F (A 195 a) (A 190 0)) : ∀ m k, k + m = A 194 a → mW (mCall X D) X cap 133 P 113 [.ref 185, .int (tN h), .int (tN a), .int (tN p), .int (tN al), .int (tN k)] [] (mN (ptA A h a (ptB (A 192) F (A 195 a) (A 190 0)) k), RF, G, mSh) = P (some (.int (tN (1)))) (mN (ptA A h a (ptB (A 192) F (A 195 a) (A 190 0)) (A 194 a)), RF, G, mSh) := by
  have hF : ∀ r, r < A 190 0 → F r < 4096 := fun r hr => pw_4096 (hw r hr).2 (ho r hr).1
  intro m
  induction m with
  | zero =>
    intro k e
    obtain rfl : k = A 194 a := by omega
    have o194 := ptA_o (A := A) (h := h) (a := a) (k := A 194 a) (c := 194) (T := ptB (A 192) F (A 195 a) (A 190 0)) (by decide) (by decide) (by decide)
    generalize ptA A h a (ptB (A 192) F (A 195 a) (A 190 0)) (A 194 a) = C at *
    rw [kh_133_113]
    simp (disch := first | omega | assumption | exact mOk_int | exact mOk_null | exact mOk_ref | (simp (disch := omega) only [aF_ef, aF_nf, aU_ne, aU_eq, aU_ne2]; first | done | omega | assumption)) only [k_133_0, k_133_1, k_133_2, al_0, il_1, il_2, gq_0, gq_1, gq_2, gq_3, gq_4, q_iald, q_callV3, is_3, il_3, r_push, ri_iceq, q_callV4, r_zret, is_4, is_5, il_5, ri_icge, il_4, ri_icgt, q_callV2, r_goto, r_iadd, ii_5, q_bald, ri_ifeq, kd_0, kd_1, kd_2, kd_3, kd_4, kd_5, ln_0, ln_1, ln_2, ln_3, ln_4, ln_5, Option.some.injEq, Value.int.injEq, Value.ref.injEq, Value.long.injEq, Prod.mk.injEq, exists_eq_left', exists_eq_left, true_and, and_true, mLk, Option.any_some, mC1, Value.category, Option.toList_some, Option.toList_none, List.nil_append, List.cons_append, List.length_cons, List.length_nil, ne_eq, Nat.reduceEqDiff, not_false_eq_true, reduceCtorEq, exists_and_left, exists_and_right, Nat.reduceLeDiff, Nat.reduceAdd, and_self, exists_eq, exists_eq_right, exists_const, eq_self, exists_eq', not_true_eq_false, false_implies, true_implies, implies_true, forall_const, or_true, true_or, false_or, or_false, and_false, false_and, if_true, if_false, ite_true, ite_false, mB, mOk_int, mOk_ref, mOk_null, mOk_long, Nat.reduceLT, Nat.reduceSub, Nat.reduceMul, Nat.reduceDiv, Nat.reduceMod, Classical.not_not, ↓reduceIte, Nat.zero_add, Nat.add_zero, Nat.add_sub_cancel, Bool.false_eq_true, tN_l, tN_m1, tN_n1, tN_n8, tN_dec, tN_dec8, aF_ef, aF_nf, aF_U, tN_lt, tN_le, tN_inj, tN_add, tN_mul, tN_sub, tN_and, tN_or, tN_xor, tN_and31, tN_clamp, tN_in, tN_div, nm_rem, tN_shl, tN_shr, tN_b2, nd_lt, nd_nlt, nd_le, nd_nle, nd_eq, nd_ne, mN_at, mN_U, aU_ne, aU_eq, aU_ne2, o194]
  | succ m ih =>
    intro k e
    have ih' := ih (k + 1) (by omega)
    have o := fun c => ptA_o (A := A) (h := h) (a := a) (k := k) (c := c) (T := ptB (A 192) F (A 195 a) (A 190 0))
    have o190 := o 190 (by decide) (by decide) (by decide)
    have o191 := o 191 (by decide) (by decide) (by decide)
    have o192 := o 192 (by decide) (by decide) (by decide)
    have o194 := o 194 (by decide) (by decide) (by decide)
    have o195 := o 195 (by decide) (by decide) (by decide)
    have hb := ptB_ok hnr hF he (show k < A 194 a by omega)
    have e134 := fun P' => m_134 (X := X) (D := D) (P := P') (G := G) (A := ptA A h a (ptB (A 192) F (A 195 a) (A 190 0)) k) (h := h) (a := a) (n := 1) (F := ptF (A 192) F (A 195 a) (A 190 0) k) hD hh ha (by rw [o190]; exact hnr) (by decide) (by decide) (by rw [o195]; exact hm) (by rw [o190, o191]; exact hw) (by
      rw [o190]
      intro r hr
      refine oRow_set (T := ptB (A 192) F (A 195 a) (A 190 0)) (n := k) ha (by omega) (hw r hr).2 o191 ptA_211 (fun i hi => (ptB_ok hnr hF he (show i < A 194 a by omega)).2.1) (ho r hr) (ptF_lt (ho r hr).1 k) (fun j hj => ?_)
      exact ptF_bit (hF r hr) k) (by rw [o190, o192]; exact hp)
    rw [o190, o192, o195] at e134
    rw [show bbv (A 192) (ptF (A 192) F (A 195 a) (A 190 0) k) 1 (A 195 a) (A 190 0) = ptB (A 192) F (A 195 a) (A 190 0) k from rfl] at e134
    have e138 := fun P' => m_138 (X := X) (D := D) (P := P') (G := G) (A := ptA A h a (ptB (A 192) F (A 195 a) (A 190 0)) k) (h := h) (a := a) (p := ptB (A 192) F (A 195 a) (A 190 0) k) (n := 1) (by omega) hh ha hb.2.2.2.2 (by omega) (by rw [ptA_212, up_eq]; omega)
    rw [ptA_st] at e138
    generalize ptA A h a (ptB (A 192) F (A 195 a) (A 190 0)) k = C at *
    rw [kh_133_113]
    simp (disch := first | omega | assumption | exact mOk_int | exact mOk_null | exact mOk_ref | (simp (disch := omega) only [aF_ef, aF_nf, aU_ne, aU_eq, aU_ne2]; first | done | omega | assumption)) only [k_133_0, k_133_1, k_133_2, al_0, il_1, il_2, gq_0, gq_1, gq_2, gq_3, gq_4, q_iald, q_callV3, is_3, il_3, r_push, ri_iceq, q_callV4, r_zret, is_4, is_5, il_5, ri_icge, il_4, ri_icgt, q_callV2, r_goto, r_iadd, ii_5, q_bald, ri_ifeq, kd_0, kd_1, kd_2, kd_3, kd_4, kd_5, ln_0, ln_1, ln_2, ln_3, ln_4, ln_5, Option.some.injEq, Value.int.injEq, Value.ref.injEq, Value.long.injEq, Prod.mk.injEq, exists_eq_left', exists_eq_left, true_and, and_true, mLk, Option.any_some, mC1, Value.category, Option.toList_some, Option.toList_none, List.nil_append, List.cons_append, List.length_cons, List.length_nil, ne_eq, Nat.reduceEqDiff, not_false_eq_true, reduceCtorEq, exists_and_left, exists_and_right, Nat.reduceLeDiff, Nat.reduceAdd, and_self, exists_eq, exists_eq_right, exists_const, eq_self, exists_eq', not_true_eq_false, false_implies, true_implies, implies_true, forall_const, or_true, true_or, false_or, or_false, and_false, false_and, if_true, if_false, ite_true, ite_false, mB, mOk_int, mOk_ref, mOk_null, mOk_long, Nat.reduceLT, Nat.reduceSub, Nat.reduceMul, Nat.reduceDiv, Nat.reduceMod, Classical.not_not, ↓reduceIte, Nat.zero_add, Nat.add_zero, Nat.add_sub_cancel, Bool.false_eq_true, tN_l, tN_m1, tN_n1, tN_n8, tN_dec, tN_dec8, aF_ef, aF_nf, aF_U, tN_lt, tN_le, tN_inj, tN_add, tN_mul, tN_sub, tN_and, tN_or, tN_xor, tN_and31, tN_clamp, tN_in, tN_div, nm_rem, tN_shl, tN_shr, tN_b2, nd_lt, nd_nlt, nd_le, nd_nle, nd_eq, nd_ne, mN_at, mN_U, aU_ne, aU_eq, aU_ne2, o194, e134, e138]
    exact ih'
theorem m_133 {X : mX} {D : Nat} {P : mPost} {A : Nat → Nat → Nat} {G : mG} {h a : Nat} {F : Nat → Nat} (hD : 5 ≤ D) (hh : h ≤ 4) (ha : a < 12) (hnr : A 190 0 ≤ 6) (h1 : 1 ≤ A 194 a) (hs : A 194 a ≤ 6) (hm : A 195 a ≤ 999) (hpt : A 197 a ≤ 1) (h0 : A 212 (12 * h + a) = 0) (hw : ∀ r, r < A 190 0 → 1 ≤ A 191 r ∧ A 191 r ≤ 12) (ho : ∀ r, r < A 190 0 → oRow A h r (F r)) (hp : ∀ r, r < A 190 0 → A 192 r ≤ 999) : mCall X D 133 [.ref 185, .int (tN h), .int (tN a)] (mN A, RF, G, mSh) P = P (some (.int (tN (if 0 < ttN (A 192) F (A 194 a) (A 195 a) (A 197 a) (A 190 0) then 1 else 0)))) (mN (mtA A h a F), RF, G, mSh) := by
  have hF : ∀ r, r < A 190 0 → F r < 4096 := fun r hr => pw_4096 (hw r hr).2 (ho r hr).1
  have e134 := fun P' => m_134 (X := X) (D := D - 1) (P := P') (G := G) (A := A) (h := h) (a := a) (n := A 194 a) (F := F) (by omega) hh ha hnr h1 hs hm hw ho hp
  have la := ml_133a (X := X) (D := D - 1) (cap := (mSh.length + (mAl 133).fst, mSum mSh + (mAl 133).snd)) (P := P) (G := G) (A := A) (h := h) (a := a) (p := 4294967295) (F := F) (by omega) hh ha hnr hm hw ho hp (A 190 0) 0 (by omega)
  simp only [fut] at la
  have hfl := fut_le (A 190 0) (pr := A 192) (F := F) (most := A 195 a)
  rw [e_133 (by omega)]
  rcases bbv_ok h1 hs hF hnr (pr := A 192) (most := A 195 a) with q | ⟨q1, q2, q3, q4, q5⟩
  · rw [q] at e134
    by_cases c1 : A 197 a = 0 ∨ fut (A 192) F (A 195 a) (A 190 0) < A 194 a
    · have eN : ttN (A 192) F (A 194 a) (A 195 a) (A 197 a) (A 190 0) = 0 := by
        unfold ttN
        rw [if_pos q, if_pos c1]
      have eA : mtA A h a F = A := by
        unfold mtA
        rw [eN]
        show aF (aF (aF A 211 (A 211)) 213 _) 212 _ = A
        rw [aF_id (c := 211) (fun _ => rfl), aF_id (c := 213) (fun j => if_neg (by omega)), aF_id (c := 212) (fun j => by rw [← h0, up_id])]
      rw [eN, eA, if_neg (by decide)]
      by_cases c2 : A 197 a = 0
      · simp (disch := first | omega | assumption | exact mOk_int | exact mOk_null | exact mOk_ref | (simp (disch := omega) only [aF_ef, aF_nf, aU_ne, aU_eq, aU_ne2]; first | done | omega | assumption)) only [k_133_0, k_133_1, k_133_2, al_0, il_1, il_2, gq_0, gq_1, gq_2, gq_3, gq_4, q_iald, q_callV3, is_3, il_3, r_push, ri_iceq, q_callV4, r_zret, is_4, is_5, il_5, ri_icge, il_4, ri_icgt, q_callV2, r_goto, r_iadd, ii_5, q_bald, ri_ifeq, kd_0, kd_1, kd_2, kd_3, kd_4, kd_5, ln_0, ln_1, ln_2, ln_3, ln_4, ln_5, Option.some.injEq, Value.int.injEq, Value.ref.injEq, Value.long.injEq, Prod.mk.injEq, exists_eq_left', exists_eq_left, true_and, and_true, mLk, Option.any_some, mC1, Value.category, Option.toList_some, Option.toList_none, List.nil_append, List.cons_append, List.length_cons, List.length_nil, ne_eq, Nat.reduceEqDiff, not_false_eq_true, reduceCtorEq, exists_and_left, exists_and_right, Nat.reduceLeDiff, Nat.reduceAdd, and_self, exists_eq, exists_eq_right, exists_const, eq_self, exists_eq', not_true_eq_false, false_implies, true_implies, implies_true, forall_const, or_true, true_or, false_or, or_false, and_false, false_and, if_true, if_false, ite_true, ite_false, mB, mOk_int, mOk_ref, mOk_null, mOk_long, Nat.reduceLT, Nat.reduceSub, Nat.reduceMul, Nat.reduceDiv, Nat.reduceMod, Classical.not_not, ↓reduceIte, Nat.zero_add, Nat.add_zero, Nat.add_sub_cancel, Bool.false_eq_true, tN_l, tN_m1, tN_n1, tN_n8, tN_dec, tN_dec8, aF_ef, aF_nf, aF_U, tN_lt, tN_le, tN_inj, tN_add, tN_mul, tN_sub, tN_and, tN_or, tN_xor, tN_and31, tN_clamp, tN_in, tN_div, nm_rem, tN_shl, tN_shr, tN_b2, nd_lt, nd_nlt, nd_le, nd_nle, nd_eq, nd_ne, mN_at, mN_U, aU_ne, aU_eq, aU_ne2, e134]
        rw [la]
        simp (disch := first | omega | assumption | exact mOk_int | exact mOk_null | exact mOk_ref | (simp (disch := omega) only [aF_ef, aF_nf, aU_ne, aU_eq, aU_ne2]; first | done | omega | assumption)) only [k_133_0, k_133_1, k_133_2, al_0, il_1, il_2, gq_0, gq_1, gq_2, gq_3, gq_4, q_iald, q_callV3, is_3, il_3, r_push, ri_iceq, q_callV4, r_zret, is_4, is_5, il_5, ri_icge, il_4, ri_icgt, q_callV2, r_goto, r_iadd, ii_5, q_bald, ri_ifeq, kd_0, kd_1, kd_2, kd_3, kd_4, kd_5, ln_0, ln_1, ln_2, ln_3, ln_4, ln_5, Option.some.injEq, Value.int.injEq, Value.ref.injEq, Value.long.injEq, Prod.mk.injEq, exists_eq_left', exists_eq_left, true_and, and_true, mLk, Option.any_some, mC1, Value.category, Option.toList_some, Option.toList_none, List.nil_append, List.cons_append, List.length_cons, List.length_nil, ne_eq, Nat.reduceEqDiff, not_false_eq_true, reduceCtorEq, exists_and_left, exists_and_right, Nat.reduceLeDiff, Nat.reduceAdd, and_self, exists_eq, exists_eq_right, exists_const, eq_self, exists_eq', not_true_eq_false, false_implies, true_implies, implies_true, forall_const, or_true, true_or, false_or, or_false, and_false, false_and, if_true, if_false, ite_true, ite_false, mB, mOk_int, mOk_ref, mOk_null, mOk_long, Nat.reduceLT, Nat.reduceSub, Nat.reduceMul, Nat.reduceDiv, Nat.reduceMod, Classical.not_not, ↓reduceIte, Nat.zero_add, Nat.add_zero, Nat.add_sub_cancel, Bool.false_eq_true, tN_l, tN_m1, tN_n1, tN_n8, tN_dec, tN_dec8, aF_ef, aF_nf, aF_U, tN_lt, tN_le, tN_inj, tN_add, tN_mul, tN_sub, tN_and, tN_or, tN_xor, tN_and31, tN_clamp, tN_in, tN_div, nm_rem, tN_shl, tN_shr, tN_b2, nd_lt, nd_nlt, nd_le, nd_nle, nd_eq, nd_ne, mN_at, mN_U, aU_ne, aU_eq, aU_ne2, c2]
      · have c3 : fut (A 192) F (A 195 a) (A 190 0) < A 194 a := by omega
        simp (disch := first | omega | assumption | exact mOk_int | exact mOk_null | exact mOk_ref | (simp (disch := omega) only [aF_ef, aF_nf, aU_ne, aU_eq, aU_ne2]; first | done | omega | assumption)) only [k_133_0, k_133_1, k_133_2, al_0, il_1, il_2, gq_0, gq_1, gq_2, gq_3, gq_4, q_iald, q_callV3, is_3, il_3, r_push, ri_iceq, q_callV4, r_zret, is_4, is_5, il_5, ri_icge, il_4, ri_icgt, q_callV2, r_goto, r_iadd, ii_5, q_bald, ri_ifeq, kd_0, kd_1, kd_2, kd_3, kd_4, kd_5, ln_0, ln_1, ln_2, ln_3, ln_4, ln_5, Option.some.injEq, Value.int.injEq, Value.ref.injEq, Value.long.injEq, Prod.mk.injEq, exists_eq_left', exists_eq_left, true_and, and_true, mLk, Option.any_some, mC1, Value.category, Option.toList_some, Option.toList_none, List.nil_append, List.cons_append, List.length_cons, List.length_nil, ne_eq, Nat.reduceEqDiff, not_false_eq_true, reduceCtorEq, exists_and_left, exists_and_right, Nat.reduceLeDiff, Nat.reduceAdd, and_self, exists_eq, exists_eq_right, exists_const, eq_self, exists_eq', not_true_eq_false, false_implies, true_implies, implies_true, forall_const, or_true, true_or, false_or, or_false, and_false, false_and, if_true, if_false, ite_true, ite_false, mB, mOk_int, mOk_ref, mOk_null, mOk_long, Nat.reduceLT, Nat.reduceSub, Nat.reduceMul, Nat.reduceDiv, Nat.reduceMod, Classical.not_not, ↓reduceIte, Nat.zero_add, Nat.add_zero, Nat.add_sub_cancel, Bool.false_eq_true, tN_l, tN_m1, tN_n1, tN_n8, tN_dec, tN_dec8, aF_ef, aF_nf, aF_U, tN_lt, tN_le, tN_inj, tN_add, tN_mul, tN_sub, tN_and, tN_or, tN_xor, tN_and31, tN_clamp, tN_in, tN_div, nm_rem, tN_shl, tN_shr, tN_b2, nd_lt, nd_nlt, nd_le, nd_nle, nd_eq, nd_ne, mN_at, mN_U, aU_ne, aU_eq, aU_ne2, e134]
        rw [la]
        simp (disch := first | omega | assumption | exact mOk_int | exact mOk_null | exact mOk_ref | (simp (disch := omega) only [aF_ef, aF_nf, aU_ne, aU_eq, aU_ne2]; first | done | omega | assumption)) only [k_133_0, k_133_1, k_133_2, al_0, il_1, il_2, gq_0, gq_1, gq_2, gq_3, gq_4, q_iald, q_callV3, is_3, il_3, r_push, ri_iceq, q_callV4, r_zret, is_4, is_5, il_5, ri_icge, il_4, ri_icgt, q_callV2, r_goto, r_iadd, ii_5, q_bald, ri_ifeq, kd_0, kd_1, kd_2, kd_3, kd_4, kd_5, ln_0, ln_1, ln_2, ln_3, ln_4, ln_5, Option.some.injEq, Value.int.injEq, Value.ref.injEq, Value.long.injEq, Prod.mk.injEq, exists_eq_left', exists_eq_left, true_and, and_true, mLk, Option.any_some, mC1, Value.category, Option.toList_some, Option.toList_none, List.nil_append, List.cons_append, List.length_cons, List.length_nil, ne_eq, Nat.reduceEqDiff, not_false_eq_true, reduceCtorEq, exists_and_left, exists_and_right, Nat.reduceLeDiff, Nat.reduceAdd, and_self, exists_eq, exists_eq_right, exists_const, eq_self, exists_eq', not_true_eq_false, false_implies, true_implies, implies_true, forall_const, or_true, true_or, false_or, or_false, and_false, false_and, if_true, if_false, ite_true, ite_false, mB, mOk_int, mOk_ref, mOk_null, mOk_long, Nat.reduceLT, Nat.reduceSub, Nat.reduceMul, Nat.reduceDiv, Nat.reduceMod, Classical.not_not, ↓reduceIte, Nat.zero_add, Nat.add_zero, Nat.add_sub_cancel, Bool.false_eq_true, tN_l, tN_m1, tN_n1, tN_n8, tN_dec, tN_dec8, aF_ef, aF_nf, aF_U, tN_lt, tN_le, tN_inj, tN_add, tN_mul, tN_sub, tN_and, tN_or, tN_xor, tN_and31, tN_clamp, tN_in, tN_div, nm_rem, tN_shl, tN_shr, tN_b2, nd_lt, nd_nlt, nd_le, nd_nle, nd_eq, nd_ne, mN_at, mN_U, aU_ne, aU_eq, aU_ne2, c2]
    · have eN : ttN (A 192) F (A 194 a) (A 195 a) (A 197 a) (A 190 0) = A 194 a := by
        unfold ttN
        rw [if_pos q, if_neg c1]
      have eA : mtA A h a F = ptA A h a (ptB (A 192) F (A 195 a) (A 190 0)) (A 194 a) := by
        unfold mtA ptA
        rw [eN, show ttP (A 192) F (A 194 a) (A 195 a) (A 190 0) = ptB (A 192) F (A 195 a) (A 190 0) from funext fun i => if_pos q]
      have lb := ml_133b (X := X) (D := D - 1) (cap := (mSh.length + (mAl 133).fst, mSum mSh + (mAl 133).snd)) (P := P) (G := G) (A := A) (h := h) (a := a) (p := 4294967295) (al := fut (A 192) F (A 195 a) (A 190 0)) (F := F) (by omega) hh ha hnr hs hm hw ho hp (by omega) (A 194 a) 0 (by omega)
      have e0 : ptA A h a (ptB (A 192) F (A 195 a) (A 190 0)) 0 = A := by
        unfold ptA
        show aF (aF (aF A 211 (A 211)) 213 _) 212 _ = A
        rw [aF_id (c := 211) (fun _ => rfl), aF_id (c := 213) (fun j => if_neg (by omega)), aF_id (c := 212) (fun j => by rw [← h0, up_id])]
      rw [e0] at lb
      rw [eN, eA, if_pos (by omega)]
      have c2 : ¬ A 197 a = 0 := fun z => c1 (.inl z)
      have c3 : ¬ fut (A 192) F (A 195 a) (A 190 0) < A 194 a := fun z => c1 (.inr z)
      simp (disch := first | omega | assumption | exact mOk_int | exact mOk_null | exact mOk_ref | (simp (disch := omega) only [aF_ef, aF_nf, aU_ne, aU_eq, aU_ne2]; first | done | omega | assumption)) only [k_133_0, k_133_1, k_133_2, al_0, il_1, il_2, gq_0, gq_1, gq_2, gq_3, gq_4, q_iald, q_callV3, is_3, il_3, r_push, ri_iceq, q_callV4, r_zret, is_4, is_5, il_5, ri_icge, il_4, ri_icgt, q_callV2, r_goto, r_iadd, ii_5, q_bald, ri_ifeq, kd_0, kd_1, kd_2, kd_3, kd_4, kd_5, ln_0, ln_1, ln_2, ln_3, ln_4, ln_5, Option.some.injEq, Value.int.injEq, Value.ref.injEq, Value.long.injEq, Prod.mk.injEq, exists_eq_left', exists_eq_left, true_and, and_true, mLk, Option.any_some, mC1, Value.category, Option.toList_some, Option.toList_none, List.nil_append, List.cons_append, List.length_cons, List.length_nil, ne_eq, Nat.reduceEqDiff, not_false_eq_true, reduceCtorEq, exists_and_left, exists_and_right, Nat.reduceLeDiff, Nat.reduceAdd, and_self, exists_eq, exists_eq_right, exists_const, eq_self, exists_eq', not_true_eq_false, false_implies, true_implies, implies_true, forall_const, or_true, true_or, false_or, or_false, and_false, false_and, if_true, if_false, ite_true, ite_false, mB, mOk_int, mOk_ref, mOk_null, mOk_long, Nat.reduceLT, Nat.reduceSub, Nat.reduceMul, Nat.reduceDiv, Nat.reduceMod, Classical.not_not, ↓reduceIte, Nat.zero_add, Nat.add_zero, Nat.add_sub_cancel, Bool.false_eq_true, tN_l, tN_m1, tN_n1, tN_n8, tN_dec, tN_dec8, aF_ef, aF_nf, aF_U, tN_lt, tN_le, tN_inj, tN_add, tN_mul, tN_sub, tN_and, tN_or, tN_xor, tN_and31, tN_clamp, tN_in, tN_div, nm_rem, tN_shl, tN_shr, tN_b2, nd_lt, nd_nlt, nd_le, nd_nle, nd_eq, nd_ne, mN_at, mN_U, aU_ne, aU_eq, aU_ne2, e134]
      rw [la]
      simp (disch := first | omega | assumption | exact mOk_int | exact mOk_null | exact mOk_ref | (simp (disch := omega) only [aF_ef, aF_nf, aU_ne, aU_eq, aU_ne2]; first | done | omega | assumption)) only [k_133_0, k_133_1, k_133_2, al_0, il_1, il_2, gq_0, gq_1, gq_2, gq_3, gq_4, q_iald, q_callV3, is_3, il_3, r_push, ri_iceq, q_callV4, r_zret, is_4, is_5, il_5, ri_icge, il_4, ri_icgt, q_callV2, r_goto, r_iadd, ii_5, q_bald, ri_ifeq, kd_0, kd_1, kd_2, kd_3, kd_4, kd_5, ln_0, ln_1, ln_2, ln_3, ln_4, ln_5, Option.some.injEq, Value.int.injEq, Value.ref.injEq, Value.long.injEq, Prod.mk.injEq, exists_eq_left', exists_eq_left, true_and, and_true, mLk, Option.any_some, mC1, Value.category, Option.toList_some, Option.toList_none, List.nil_append, List.cons_append, List.length_cons, List.length_nil, ne_eq, Nat.reduceEqDiff, not_false_eq_true, reduceCtorEq, exists_and_left, exists_and_right, Nat.reduceLeDiff, Nat.reduceAdd, and_self, exists_eq, exists_eq_right, exists_const, eq_self, exists_eq', not_true_eq_false, false_implies, true_implies, implies_true, forall_const, or_true, true_or, false_or, or_false, and_false, false_and, if_true, if_false, ite_true, ite_false, mB, mOk_int, mOk_ref, mOk_null, mOk_long, Nat.reduceLT, Nat.reduceSub, Nat.reduceMul, Nat.reduceDiv, Nat.reduceMod, Classical.not_not, ↓reduceIte, Nat.zero_add, Nat.add_zero, Nat.add_sub_cancel, Bool.false_eq_true, tN_l, tN_m1, tN_n1, tN_n8, tN_dec, tN_dec8, aF_ef, aF_nf, aF_U, tN_lt, tN_le, tN_inj, tN_add, tN_mul, tN_sub, tN_and, tN_or, tN_xor, tN_and31, tN_clamp, tN_in, tN_div, nm_rem, tN_shl, tN_shr, tN_b2, nd_lt, nd_nlt, nd_le, nd_nle, nd_eq, nd_ne, mN_at, mN_U, aU_ne, aU_eq, aU_ne2, c2]
      exact lb
  · have c1 : ¬ bbv (A 192) F (A 194 a) (A 195 a) (A 190 0) = 4294967295 := by omega
    have eN : ttN (A 192) F (A 194 a) (A 195 a) (A 197 a) (A 190 0) = A 194 a := by
      unfold ttN
      rw [if_neg c1]
    have eP : ttP (A 192) F (A 194 a) (A 195 a) (A 190 0) = fun i => bbv (A 192) F (A 194 a) (A 195 a) (A 190 0) + i := funext fun i => if_neg c1
    have hsw := blk_in h1 (ho _ q1).1 q4
    have hsw2 := (hw _ q1).2
    have e138 := fun P' => m_138 (X := X) (D := D - 1) (P := P') (G := G) (A := A) (h := h) (a := a) (p := bbv (A 192) F (A 194 a) (A 195 a) (A 190 0)) (n := A 194 a) (by omega) hh ha q5 (by omega) (by omega)
    have eA : mtA A h a F = stA A h a (bbv (A 192) F (A 194 a) (A 195 a) (A 190 0)) (A 194 a) := by
      unfold mtA stA
      rw [eN, eP, h0, Nat.add_zero, Nat.zero_add]
      generalize bbv (A 192) F (A 194 a) (A 195 a) (A 190 0) = b at *
      rw [oSet_rng (q := 72 * h + 12 * (b / 100) + b % 100) (A 194 a) (fun k hk => by show 72 * h + 12 * ((b + k) / 100) + (b + k) % 100 = _; omega)]
    rw [eN, eA, if_pos (by omega)]
    generalize bbv (A 192) F (A 194 a) (A 195 a) (A 190 0) = b at *
    generalize stA A h a b (A 194 a) = C at *
    simp (disch := first | omega | assumption | exact mOk_int | exact mOk_null | exact mOk_ref | (simp (disch := omega) only [aF_ef, aF_nf, aU_ne, aU_eq, aU_ne2]; first | done | omega | assumption)) only [k_133_0, k_133_1, k_133_2, al_0, il_1, il_2, gq_0, gq_1, gq_2, gq_3, gq_4, q_iald, q_callV3, is_3, il_3, r_push, ri_iceq, q_callV4, r_zret, is_4, is_5, il_5, ri_icge, il_4, ri_icgt, q_callV2, r_goto, r_iadd, ii_5, q_bald, ri_ifeq, kd_0, kd_1, kd_2, kd_3, kd_4, kd_5, ln_0, ln_1, ln_2, ln_3, ln_4, ln_5, Option.some.injEq, Value.int.injEq, Value.ref.injEq, Value.long.injEq, Prod.mk.injEq, exists_eq_left', exists_eq_left, true_and, and_true, mLk, Option.any_some, mC1, Value.category, Option.toList_some, Option.toList_none, List.nil_append, List.cons_append, List.length_cons, List.length_nil, ne_eq, Nat.reduceEqDiff, not_false_eq_true, reduceCtorEq, exists_and_left, exists_and_right, Nat.reduceLeDiff, Nat.reduceAdd, and_self, exists_eq, exists_eq_right, exists_const, eq_self, exists_eq', not_true_eq_false, false_implies, true_implies, implies_true, forall_const, or_true, true_or, false_or, or_false, and_false, false_and, if_true, if_false, ite_true, ite_false, mB, mOk_int, mOk_ref, mOk_null, mOk_long, Nat.reduceLT, Nat.reduceSub, Nat.reduceMul, Nat.reduceDiv, Nat.reduceMod, Classical.not_not, ↓reduceIte, Nat.zero_add, Nat.add_zero, Nat.add_sub_cancel, Bool.false_eq_true, tN_l, tN_m1, tN_n1, tN_n8, tN_dec, tN_dec8, aF_ef, aF_nf, aF_U, tN_lt, tN_le, tN_inj, tN_add, tN_mul, tN_sub, tN_and, tN_or, tN_xor, tN_and31, tN_clamp, tN_in, tN_div, nm_rem, tN_shl, tN_shr, tN_b2, nd_lt, nd_nlt, nd_le, nd_nle, nd_eq, nd_ne, mN_at, mN_U, aU_ne, aU_eq, aU_ne2, e134, e138]

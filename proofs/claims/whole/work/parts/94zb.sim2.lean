set_option maxRecDepth 20000
set_option maxHeartbeats 4000000
/-! THE TESTS of a line: one step of both loops -/
def tzN (K : Nat → Nat) (N n : Nat) : Nat := stI N (stI N (stI N (tA K (stI N) n)))
def tzA (A : Nat → Nat → Nat) (N n : Nat) : Nat → Nat → Nat := adT A (tB (A 182) n) (A 182 (tA (A 182) (stI N) n) - 20) (A 182 (stI N (tA (A 182) (stI N) n))) (A 183 (stI N (stI N (tA (A 182) (stI N) n))))
def tzM (B : Nat → Nat → Nat) (K V : Nat → Nat) (N l k n : Nat) : Nat → Nat → Nat := mdT B l k (tB K n) (K (tA K (stI N) n) - 20) (K (stI N (tA K (stI N) n))) (V (stI N (stI N (tA K (stI N) n))))
theorem stI_ge {N n : Nat} : n ≤ stI N n := by
  unfold stI
  by_cases c : n < N
  · rw [if_pos c]; omega
  · rw [if_neg c]; omega
theorem tA_in {K : Nat → Nat} {N n : Nat} (hn : n ≤ N) : n ≤ tA K (stI N) n ∧ tA K (stI N) n ≤ N := by
  unfold tA
  by_cases c : K n = 12
  · rw [if_pos c]; exact ⟨stI_ge, stI_le hn⟩
  · rw [if_neg c]; exact ⟨Nat.le_refl _, hn⟩
theorem tzN_in {K : Nat → Nat} {N n : Nat} (hn : n ≤ N) : n ≤ tzN K N n ∧ tzN K N n ≤ N := by
  obtain ⟨a1, a2⟩ := tA_in (K := K) hn
  have b1 := stI_ge (N := N) (n := tA K (stI N) n)
  have b2 := stI_ge (N := N) (n := stI N (tA K (stI N) n))
  have b3 := stI_ge (N := N) (n := stI N (stI N (tA K (stI N) n)))
  have c1 := stI_le a2
  have c2 := stI_le c1
  have c3 := stI_le c2
  unfold tzN
  omega
theorem tR_in {K : Nat → Nat} {N n : Nat} (hn : n ≤ N) : tR K (stI N) n ≤ N := by
  obtain ⟨a1, a2⟩ := tA_in (K := K) hn
  have c1 := stI_le a2
  have c2 := stI_le c1
  unfold tR
  by_cases z : 20 ≤ K (tA K (stI N) n) ∧ K (tA K (stI N) n) ≤ 24
  · rw [if_pos z]
    by_cases y : K (stI N (tA K (stI N) n)) = 60 ∨ K (stI N (tA K (stI N) n)) = 61 ∨ K (stI N (tA K (stI N) n)) = 62
    · rw [if_pos y]; exact c2
    · rw [if_neg y]; exact c1
  · rw [if_neg z]; exact a2
section
variable {X : mX} {D : Nat} {cap : Nat × Nat} {P : mPost} {G : mG} {A B : Nat → Nat → Nat} {b : Nat → Nat} {L N n k nl fk fp l : Nat} {K V S : Nat → Nat}
theorem cs_L (hD : 4 ≤ D) (hn : n < N) (hT : TK b L N (A 182) (A 183) (A 184)) (hm : A 181 0 = N + 1) (hA : A 173 0 = min nl 12) (hU : nl < 12 → A 175 nl = min k 4) (hf : fk ≤ 3) (hk : k ≤ n) (h4 : 4 < k → fk ≠ 0) : (tOk (A 182) (stI N) (n + 1) → mW (mCall X D) X cap 81 P 4 [.ref 172, .int (tN 1), .int (tN k)] [] (mN (rdW A fk fp n), RF, G, mSh) = mW (mCall X D) X cap 81 P 4 [.ref 172, .int (tN (if A 182 (tzN (A 182) N (n + 1)) = 11 then 1 else 0)), .int (tN (k + 1))] [] (mN (rdW (tzA A N (n + 1)) (kF (decide (k = 4)) 3 fk) (pF (decide (k = 4)) (A 184 (n + 1)) fk fp) (tzN (A 182) N (n + 1))), RF, G, mSh)) ∧ (¬ tOk (A 182) (stI N) (n + 1) → mW (mCall X D) X cap 81 P 4 [.ref 172, .int (tN 1), .int (tN k)] [] (mN (rdW A fk fp n), RF, G, mSh) = P (some (.int (tN (0)))) (mN (rdW A 1 (A 184 (tR (A 182) (stI N) (n + 1))) (tR (A 182) (stI N) (n + 1))), RF, G, mSh)) := by
  have hN := hT.1
  have st : stI N n = n + 1 := by unfold stI; rw [if_pos hn]
  have e82 := fun P' => c_82 (X := X) (D := D) (P := P') (G := G) (A := A) (fk := fk) (fp := fp) (n := n) (by omega) (Nat.le_of_lt hn) hN hm
  rw [st] at e82
  have e79 := fun P' => c_79 (X := X) (D := D) (P := P') (G := G) (A := A) (fk := fk) (fp := fp) (n := n + 1) (f := 3) (by omega) (by omega) hf
  have hkk : ∀ n, n ≤ N → A 182 n < 256 := fun n hn => by have := tk_k hT hn; omega
  have hvv : ∀ n, n ≤ N → A 182 n = 2 → A 183 n < 65536 := fun n hn z => by have := tk_v hT hn z; omega
  have ht : A 173 0 < 12 → A 175 (A 173 0) ≤ 4 := fun z => by
    have e : A 173 0 = nl := by omega
    rw [e, hU (by omega)]
    omega
  have e83 := fun P' fk fp => c_83 (X := X) (D := D) (P := P') (G := G) (A := A) (fk := fk) (fp := fp) (n := n + 1) (N := N) (by omega) hn hN hm hkk hvv (by omega) ht
  obtain ⟨z1, z2⟩ := tzN_in (K := A 182) (n := n + 1) hn
  have e77 := fun P' fk fp => c_77 (X := X) (D := D) (P := P') (G := G) (A := tzA A N (n + 1)) (fk := fk) (fp := fp) (n := tzN (A 182) N (n + 1)) (by omega) (by omega)
  have t182 : tzA A N (n + 1) 182 = A 182 := adT_o (by omega)
  rw [t182] at e77
  have k62 := hkk _ z2
  by_cases ok : tOk (A 182) (stI N) (n + 1)
  · refine ⟨fun _ => ?_, fun z => absurd ok z⟩
    have f83 : ∀ P' fk fp, mCall X D 83 [.ref 172] (mN (rdW A fk fp (n + 1)), RF, G, mSh) P' = P' (some (.int (tN (1)))) (mN (rdW (tzA A N (n + 1)) fk fp (tzN (A 182) N (n + 1))), RF, G, mSh) := fun P' fk fp => (e83 P' fk fp).1 ok
    clear e83 ok
    generalize tzA A N (n + 1) = A1 at *
    generalize tzN (A 182) N (n + 1) = m at *
    by_cases ck : k < 4
    · have d : decide (k = 4) = false := decide_eq_false (by omega)
      rw [d, show kF false 3 fk = fk from rfl, show pF false (A 184 (n + 1)) fk fp = fp from rfl, kh_81_4]
      by_cases c11 : A 182 m = 11
      · simp (disch := first | omega | assumption | exact mOk_int | exact mOk_null | exact mOk_ref | (simp (disch := omega) only [aF_ef, aF_nf, aU_ne, aU_eq, aU_ne2]; first | done | omega | assumption)) only [k_81_0, r_push, is_1, is_2, il_2, ri_icgt, il_1, ri_ifeq, al_0, q_callV0, ri_iclt, q_callV1, ri_ifne, r_zret, ri_icne, r_goto, ii_2, kd_0, kd_1, kd_2, kd_3, kd_4, kd_5, ln_0, ln_1, ln_2, ln_3, ln_4, ln_5, Option.some.injEq, Value.int.injEq, Value.ref.injEq, Value.long.injEq, Prod.mk.injEq, exists_eq_left', exists_eq_left, true_and, and_true, mLk, Option.any_some, mC1, Value.category, Option.toList_some, Option.toList_none, List.nil_append, List.cons_append, List.length_cons, List.length_nil, ne_eq, Nat.reduceEqDiff, not_false_eq_true, reduceCtorEq, exists_and_left, exists_and_right, Nat.reduceLeDiff, Nat.reduceAdd, and_self, exists_eq, exists_eq_right, exists_const, eq_self, exists_eq', not_true_eq_false, false_implies, true_implies, implies_true, forall_const, or_true, true_or, false_or, or_false, and_false, false_and, if_true, if_false, ite_true, ite_false, mB, mOk_int, mOk_ref, mOk_null, mOk_long, Nat.reduceLT, Nat.reduceSub, Nat.reduceMul, Nat.reduceDiv, Nat.reduceMod, Classical.not_not, ↓reduceIte, Nat.zero_add, Nat.add_zero, Nat.add_sub_cancel, Bool.false_eq_true, tN_l, tN_m1, tN_n1, tN_n8, tN_dec, tN_dec8, aF_ef, aF_nf, aF_U, tN_lt, tN_le, tN_inj, tN_add, tN_mul, tN_sub, tN_and, tN_or, tN_xor, tN_and31, tN_clamp, tN_in, tN_div, nm_rem, tN_shl, tN_shr, tN_b2, nd_lt, nd_nlt, nd_le, nd_nle, nd_eq, nd_ne, mN_at, mN_U, aU_ne, aU_eq, aU_ne2, e82, f83, e77, ck, c11]
      · simp (disch := first | omega | assumption | exact mOk_int | exact mOk_null | exact mOk_ref | (simp (disch := omega) only [aF_ef, aF_nf, aU_ne, aU_eq, aU_ne2]; first | done | omega | assumption)) only [k_81_0, r_push, is_1, is_2, il_2, ri_icgt, il_1, ri_ifeq, al_0, q_callV0, ri_iclt, q_callV1, ri_ifne, r_zret, ri_icne, r_goto, ii_2, kd_0, kd_1, kd_2, kd_3, kd_4, kd_5, ln_0, ln_1, ln_2, ln_3, ln_4, ln_5, Option.some.injEq, Value.int.injEq, Value.ref.injEq, Value.long.injEq, Prod.mk.injEq, exists_eq_left', exists_eq_left, true_and, and_true, mLk, Option.any_some, mC1, Value.category, Option.toList_some, Option.toList_none, List.nil_append, List.cons_append, List.length_cons, List.length_nil, ne_eq, Nat.reduceEqDiff, not_false_eq_true, reduceCtorEq, exists_and_left, exists_and_right, Nat.reduceLeDiff, Nat.reduceAdd, and_self, exists_eq, exists_eq_right, exists_const, eq_self, exists_eq', not_true_eq_false, false_implies, true_implies, implies_true, forall_const, or_true, true_or, false_or, or_false, and_false, false_and, if_true, if_false, ite_true, ite_false, mB, mOk_int, mOk_ref, mOk_null, mOk_long, Nat.reduceLT, Nat.reduceSub, Nat.reduceMul, Nat.reduceDiv, Nat.reduceMod, Classical.not_not, ↓reduceIte, Nat.zero_add, Nat.add_zero, Nat.add_sub_cancel, Bool.false_eq_true, tN_l, tN_m1, tN_n1, tN_n8, tN_dec, tN_dec8, aF_ef, aF_nf, aF_U, tN_lt, tN_le, tN_inj, tN_add, tN_mul, tN_sub, tN_and, tN_or, tN_xor, tN_and31, tN_clamp, tN_in, tN_div, nm_rem, tN_shl, tN_shr, tN_b2, nd_lt, nd_nlt, nd_le, nd_nle, nd_eq, nd_ne, mN_at, mN_U, aU_ne, aU_eq, aU_ne2, e82, f83, e77, ck, c11]
    · have q : (if fk = 0 then 3 else fk) = kF (decide (k = 4)) 3 fk ∧ (if fk = 0 then A 184 (n + 1) else fp) = pF (decide (k = 4)) (A 184 (n + 1)) fk fp := by
        unfold kF pF rmK rmP
        by_cases c4 : k = 4
        · rw [if_pos (decide_eq_true c4), if_pos (decide_eq_true c4)]
          exact ⟨rfl, rfl⟩
        · have := h4 (by omega)
          rw [decide_eq_false c4, if_neg this, if_neg this]
          exact ⟨rfl, rfl⟩
      rw [q.1, q.2] at e79
      clear q
      generalize kF (decide (k = 4)) 3 fk = fk1 at *
      generalize pF (decide (k = 4)) (A 184 (n + 1)) fk fp = fp1 at *
      rw [kh_81_4]
      by_cases c11 : A 182 m = 11
      · simp (disch := first | omega | assumption | exact mOk_int | exact mOk_null | exact mOk_ref | (simp (disch := omega) only [aF_ef, aF_nf, aU_ne, aU_eq, aU_ne2]; first | done | omega | assumption)) only [k_81_0, r_push, is_1, is_2, il_2, ri_icgt, il_1, ri_ifeq, al_0, q_callV0, ri_iclt, q_callV1, ri_ifne, r_zret, ri_icne, r_goto, ii_2, kd_0, kd_1, kd_2, kd_3, kd_4, kd_5, ln_0, ln_1, ln_2, ln_3, ln_4, ln_5, Option.some.injEq, Value.int.injEq, Value.ref.injEq, Value.long.injEq, Prod.mk.injEq, exists_eq_left', exists_eq_left, true_and, and_true, mLk, Option.any_some, mC1, Value.category, Option.toList_some, Option.toList_none, List.nil_append, List.cons_append, List.length_cons, List.length_nil, ne_eq, Nat.reduceEqDiff, not_false_eq_true, reduceCtorEq, exists_and_left, exists_and_right, Nat.reduceLeDiff, Nat.reduceAdd, and_self, exists_eq, exists_eq_right, exists_const, eq_self, exists_eq', not_true_eq_false, false_implies, true_implies, implies_true, forall_const, or_true, true_or, false_or, or_false, and_false, false_and, if_true, if_false, ite_true, ite_false, mB, mOk_int, mOk_ref, mOk_null, mOk_long, Nat.reduceLT, Nat.reduceSub, Nat.reduceMul, Nat.reduceDiv, Nat.reduceMod, Classical.not_not, ↓reduceIte, Nat.zero_add, Nat.add_zero, Nat.add_sub_cancel, Bool.false_eq_true, tN_l, tN_m1, tN_n1, tN_n8, tN_dec, tN_dec8, aF_ef, aF_nf, aF_U, tN_lt, tN_le, tN_inj, tN_add, tN_mul, tN_sub, tN_and, tN_or, tN_xor, tN_and31, tN_clamp, tN_in, tN_div, nm_rem, tN_shl, tN_shr, tN_b2, nd_lt, nd_nlt, nd_le, nd_nle, nd_eq, nd_ne, mN_at, mN_U, aU_ne, aU_eq, aU_ne2, e82, e79, f83, e77, ck, c11]
      · simp (disch := first | omega | assumption | exact mOk_int | exact mOk_null | exact mOk_ref | (simp (disch := omega) only [aF_ef, aF_nf, aU_ne, aU_eq, aU_ne2]; first | done | omega | assumption)) only [k_81_0, r_push, is_1, is_2, il_2, ri_icgt, il_1, ri_ifeq, al_0, q_callV0, ri_iclt, q_callV1, ri_ifne, r_zret, ri_icne, r_goto, ii_2, kd_0, kd_1, kd_2, kd_3, kd_4, kd_5, ln_0, ln_1, ln_2, ln_3, ln_4, ln_5, Option.some.injEq, Value.int.injEq, Value.ref.injEq, Value.long.injEq, Prod.mk.injEq, exists_eq_left', exists_eq_left, true_and, and_true, mLk, Option.any_some, mC1, Value.category, Option.toList_some, Option.toList_none, List.nil_append, List.cons_append, List.length_cons, List.length_nil, ne_eq, Nat.reduceEqDiff, not_false_eq_true, reduceCtorEq, exists_and_left, exists_and_right, Nat.reduceLeDiff, Nat.reduceAdd, and_self, exists_eq, exists_eq_right, exists_const, eq_self, exists_eq', not_true_eq_false, false_implies, true_implies, implies_true, forall_const, or_true, true_or, false_or, or_false, and_false, false_and, if_true, if_false, ite_true, ite_false, mB, mOk_int, mOk_ref, mOk_null, mOk_long, Nat.reduceLT, Nat.reduceSub, Nat.reduceMul, Nat.reduceDiv, Nat.reduceMod, Classical.not_not, ↓reduceIte, Nat.zero_add, Nat.add_zero, Nat.add_sub_cancel, Bool.false_eq_true, tN_l, tN_m1, tN_n1, tN_n8, tN_dec, tN_dec8, aF_ef, aF_nf, aF_U, tN_lt, tN_le, tN_inj, tN_add, tN_mul, tN_sub, tN_and, tN_or, tN_xor, tN_and31, tN_clamp, tN_in, tN_div, nm_rem, tN_shl, tN_shr, tN_b2, nd_lt, nd_nlt, nd_le, nd_nle, nd_eq, nd_ne, mN_at, mN_U, aU_ne, aU_eq, aU_ne2, e82, e79, f83, e77, ck, c11]
  · refine ⟨fun z => absurd z ok, fun _ => ?_⟩
    have f83 := fun P' fk fp => (e83 P' fk fp).2 ok
    clear e83
    generalize tR (A 182) (stI N) (n + 1) = w at *
    by_cases ck : k < 4
    · rw [kh_81_4]
      simp (disch := first | omega | assumption | exact mOk_int | exact mOk_null | exact mOk_ref | (simp (disch := omega) only [aF_ef, aF_nf, aU_ne, aU_eq, aU_ne2]; first | done | omega | assumption)) only [k_81_0, r_push, is_1, is_2, il_2, ri_icgt, il_1, ri_ifeq, al_0, q_callV0, ri_iclt, q_callV1, ri_ifne, r_zret, ri_icne, r_goto, ii_2, kd_0, kd_1, kd_2, kd_3, kd_4, kd_5, ln_0, ln_1, ln_2, ln_3, ln_4, ln_5, Option.some.injEq, Value.int.injEq, Value.ref.injEq, Value.long.injEq, Prod.mk.injEq, exists_eq_left', exists_eq_left, true_and, and_true, mLk, Option.any_some, mC1, Value.category, Option.toList_some, Option.toList_none, List.nil_append, List.cons_append, List.length_cons, List.length_nil, ne_eq, Nat.reduceEqDiff, not_false_eq_true, reduceCtorEq, exists_and_left, exists_and_right, Nat.reduceLeDiff, Nat.reduceAdd, and_self, exists_eq, exists_eq_right, exists_const, eq_self, exists_eq', not_true_eq_false, false_implies, true_implies, implies_true, forall_const, or_true, true_or, false_or, or_false, and_false, false_and, if_true, if_false, ite_true, ite_false, mB, mOk_int, mOk_ref, mOk_null, mOk_long, Nat.reduceLT, Nat.reduceSub, Nat.reduceMul, Nat.reduceDiv, Nat.reduceMod, Classical.not_not, ↓reduceIte, Nat.zero_add, Nat.add_zero, Nat.add_sub_cancel, Bool.false_eq_true, tN_l, tN_m1, tN_n1, tN_n8, tN_dec, tN_dec8, aF_ef, aF_nf, aF_U, tN_lt, tN_le, tN_inj, tN_add, tN_mul, tN_sub, tN_and, tN_or, tN_xor, tN_and31, tN_clamp, tN_in, tN_div, nm_rem, tN_shl, tN_shr, tN_b2, nd_lt, nd_nlt, nd_le, nd_nle, nd_eq, nd_ne, mN_at, mN_U, aU_ne, aU_eq, aU_ne2, e82, f83, ck]
    · rw [kh_81_4]
      simp (disch := first | omega | assumption | exact mOk_int | exact mOk_null | exact mOk_ref | (simp (disch := omega) only [aF_ef, aF_nf, aU_ne, aU_eq, aU_ne2]; first | done | omega | assumption)) only [k_81_0, r_push, is_1, is_2, il_2, ri_icgt, il_1, ri_ifeq, al_0, q_callV0, ri_iclt, q_callV1, ri_ifne, r_zret, ri_icne, r_goto, ii_2, kd_0, kd_1, kd_2, kd_3, kd_4, kd_5, ln_0, ln_1, ln_2, ln_3, ln_4, ln_5, Option.some.injEq, Value.int.injEq, Value.ref.injEq, Value.long.injEq, Prod.mk.injEq, exists_eq_left', exists_eq_left, true_and, and_true, mLk, Option.any_some, mC1, Value.category, Option.toList_some, Option.toList_none, List.nil_append, List.cons_append, List.length_cons, List.length_nil, ne_eq, Nat.reduceEqDiff, not_false_eq_true, reduceCtorEq, exists_and_left, exists_and_right, Nat.reduceLeDiff, Nat.reduceAdd, and_self, exists_eq, exists_eq_right, exists_const, eq_self, exists_eq', not_true_eq_false, false_implies, true_implies, implies_true, forall_const, or_true, true_or, false_or, or_false, and_false, false_and, if_true, if_false, ite_true, ite_false, mB, mOk_int, mOk_ref, mOk_null, mOk_long, Nat.reduceLT, Nat.reduceSub, Nat.reduceMul, Nat.reduceDiv, Nat.reduceMod, Classical.not_not, ↓reduceIte, Nat.zero_add, Nat.add_zero, Nat.add_sub_cancel, Bool.false_eq_true, tN_l, tN_m1, tN_n1, tN_n8, tN_dec, tN_dec8, aF_ef, aF_nf, aF_U, tN_lt, tN_le, tN_inj, tN_add, tN_mul, tN_sub, tN_and, tN_or, tN_xor, tN_and31, tN_clamp, tN_in, tN_div, nm_rem, tN_shl, tN_shr, tN_b2, nd_lt, nd_nlt, nd_le, nd_nle, nd_eq, nd_ne, mN_at, mN_U, aU_ne, aU_eq, aU_ne2, e82, e79, f83, ck]
theorem ms_L (hD : 4 ≤ D) (hn : n < N) (hT : TK b L N K V S) (hP : moP B b L) (hf : B 185 37 ≤ 3) (hk : k ≤ 300) (hl : l ≤ 12) : (tOk K (stI N) (n + 1) → mW (mCall X D) X cap 156 P 58 [.ref 185, .int (tN l), .int (tN 1), .int (tN k)] [] (mN (mT (B) b L (S n)), RF, moQ G b L (S n), mSh) = mW (mCall X D) X cap 156 P 58 [.ref 185, .int (tN l), .int (tN (if K (tzN K N (n + 1)) = 11 then 1 else 0)), .int (tN (k + 1))] [] (mN (mT (tzM (bFl (decide (k = 4)) 3 (S (n + 1)) B) K V N l k (n + 1)) b L (S (tzN K N (n + 1)))), RF, moQ G b L (S (tzN K N (n + 1))), mSh)) ∧ (¬ tOk K (stI N) (n + 1) → mW (mCall X D) X cap 156 P 58 [.ref 185, .int (tN l), .int (tN 1), .int (tN k)] [] (mN (mT (B) b L (S n)), RF, moQ G b L (S n), mSh) = P (some (.int (tN (0)))) (mN (mT (aU (bFl (decide (k = 4)) 3 (S (n + 1)) B) 185 36 (S (tR K (stI N) (n + 1)))) b L (S (tR K (stI N) (n + 1)))), RF, moQ G b L (S (tR K (stI N) (n + 1))), mSh)) := by
  have st : stI N n = n + 1 := by unfold stI; rw [if_pos hn]
  have e154 := fun P' => i_154 (X := X) (D := D) (P := P') (G := G) (B := B) (by omega) hT hP (Nat.le_of_lt hn)
  rw [st] at e154
  have e159 := fun P' => i_159 (X := X) (D := D) (P := P') (G := G) (B := B) (n := n + 1) (l := l) (k := k) (by omega) hT hP hf hn hl hk
  have q : (if k = 4 then lat B 3 (S (n + 1)) else B) = bFl (decide (k = 4)) 3 (S (n + 1)) B := by
    unfold bFl
    by_cases c4 : k = 4
    · rw [if_pos c4, if_pos (decide_eq_true c4)]
    · rw [if_neg c4, decide_eq_false c4]
      rfl
  rw [q] at e159
  clear q
  obtain ⟨z1, z2⟩ := tzN_in (K := K) (n := n + 1) hn
  generalize bFl (decide (k = 4)) 3 (S (n + 1)) B = B0 at *
  have w0 := fun P' => i_158_and (X := X) (D := D) (P := P') (G := G) (B := tzM B0 K V N l k (n + 1)) (n := tzN K N (n + 1)) (by omega) hT z2
  by_cases ok : tOk K (stI N) (n + 1)
  · refine ⟨fun _ => ?_, fun z => absurd ok z⟩
    have f159 : ∀ P', mCall X D 159 [.ref 185, .int (tN l), .int (tN k)] (mN (mT (B) b L (S (n + 1))), RF, moQ G b L (S (n + 1)), mSh) P' = P' (some (.int (tN (1)))) (mN (mT (tzM B0 K V N l k (n + 1)) b L (S (tzN K N (n + 1)))), RF, moQ G b L (S (tzN K N (n + 1))), mSh) := fun P' => (e159 P').trans (q4_ok ok)
    clear e159
    generalize tzM B0 K V N l k (n + 1) = B1 at *
    generalize tzN K N (n + 1) = m at *
    rw [kh_156_58]
    by_cases c11 : K m = 11
    · rw [if_pos c11] at w0 ⊢
      simp (disch := first | omega | assumption | exact mOk_int | exact mOk_null | exact mOk_ref | (simp (disch := omega) only [aF_ef, aF_nf, aU_ne, aU_eq, aU_ne2]; first | done | omega | assumption)) only [kc_156_59_91, al_0, q_getI, r_push, ri_icge, r_goto, is_1, ri_icne, q_callV2, gq_0, gq_1, gq_2, gq_3, gq_4, il_1, q_iast, q_callV1, ri_ifeq, is_2, is_3, il_2, q_callV0, il_3, ri_ifne, r_zret, ii_3, ri_iceq, ri_icle, r_dup, r_iadd, q_putI, kd_0, kd_1, kd_2, kd_3, kd_4, kd_5, ln_0, ln_1, ln_2, ln_3, ln_4, ln_5, Option.some.injEq, Value.int.injEq, Value.ref.injEq, Value.long.injEq, Prod.mk.injEq, exists_eq_left', exists_eq_left, true_and, and_true, mLk, Option.any_some, mC1, Value.category, Option.toList_some, Option.toList_none, List.nil_append, List.cons_append, List.length_cons, List.length_nil, ne_eq, Nat.reduceEqDiff, not_false_eq_true, reduceCtorEq, exists_and_left, exists_and_right, Nat.reduceLeDiff, Nat.reduceAdd, and_self, exists_eq, exists_eq_right, exists_const, eq_self, exists_eq', not_true_eq_false, false_implies, true_implies, implies_true, forall_const, or_true, true_or, false_or, or_false, and_false, false_and, if_true, if_false, ite_true, ite_false, mB, mOk_int, mOk_ref, mOk_null, mOk_long, Nat.reduceLT, Nat.reduceSub, Nat.reduceMul, Nat.reduceDiv, Nat.reduceMod, Classical.not_not, ↓reduceIte, Nat.zero_add, Nat.add_zero, Nat.add_sub_cancel, Bool.false_eq_true, tN_l, tN_m1, tN_n1, tN_n8, tN_dec, tN_dec8, aF_ef, aF_nf, aF_U, tN_lt, tN_le, tN_inj, tN_add, tN_mul, tN_sub, tN_and, tN_or, tN_xor, tN_and31, tN_clamp, tN_in, tN_div, nm_rem, tN_shl, tN_shr, tN_b2, nd_lt, nd_nlt, nd_le, nd_nle, nd_eq, nd_ne, mN_at, mN_U, aU_ne, aU_eq, aU_ne2, e154, f159, w0]
    · rw [if_neg c11] at w0 ⊢
      simp (disch := first | omega | assumption | exact mOk_int | exact mOk_null | exact mOk_ref | (simp (disch := omega) only [aF_ef, aF_nf, aU_ne, aU_eq, aU_ne2]; first | done | omega | assumption)) only [kc_156_59_91, al_0, q_getI, r_push, ri_icge, r_goto, is_1, ri_icne, q_callV2, gq_0, gq_1, gq_2, gq_3, gq_4, il_1, q_iast, q_callV1, ri_ifeq, is_2, is_3, il_2, q_callV0, il_3, ri_ifne, r_zret, ii_3, ri_iceq, ri_icle, r_dup, r_iadd, q_putI, kd_0, kd_1, kd_2, kd_3, kd_4, kd_5, ln_0, ln_1, ln_2, ln_3, ln_4, ln_5, Option.some.injEq, Value.int.injEq, Value.ref.injEq, Value.long.injEq, Prod.mk.injEq, exists_eq_left', exists_eq_left, true_and, and_true, mLk, Option.any_some, mC1, Value.category, Option.toList_some, Option.toList_none, List.nil_append, List.cons_append, List.length_cons, List.length_nil, ne_eq, Nat.reduceEqDiff, not_false_eq_true, reduceCtorEq, exists_and_left, exists_and_right, Nat.reduceLeDiff, Nat.reduceAdd, and_self, exists_eq, exists_eq_right, exists_const, eq_self, exists_eq', not_true_eq_false, false_implies, true_implies, implies_true, forall_const, or_true, true_or, false_or, or_false, and_false, false_and, if_true, if_false, ite_true, ite_false, mB, mOk_int, mOk_ref, mOk_null, mOk_long, Nat.reduceLT, Nat.reduceSub, Nat.reduceMul, Nat.reduceDiv, Nat.reduceMod, Classical.not_not, ↓reduceIte, Nat.zero_add, Nat.add_zero, Nat.add_sub_cancel, Bool.false_eq_true, tN_l, tN_m1, tN_n1, tN_n8, tN_dec, tN_dec8, aF_ef, aF_nf, aF_U, tN_lt, tN_le, tN_inj, tN_add, tN_mul, tN_sub, tN_and, tN_or, tN_xor, tN_and31, tN_clamp, tN_in, tN_div, nm_rem, tN_shl, tN_shr, tN_b2, nd_lt, nd_nlt, nd_le, nd_nle, nd_eq, nd_ne, mN_at, mN_U, aU_ne, aU_eq, aU_ne2, e154, f159, w0]
  · refine ⟨fun z => absurd z ok, fun _ => ?_⟩
    have f159 := fun P' => (e159 P').trans (q4_no ok)
    clear e159
    generalize tR K (stI N) (n + 1) = w at *
    rw [kh_156_58]
    simp (disch := first | omega | assumption | exact mOk_int | exact mOk_null | exact mOk_ref | (simp (disch := omega) only [aF_ef, aF_nf, aU_ne, aU_eq, aU_ne2]; first | done | omega | assumption)) only [kc_156_59_91, al_0, q_getI, r_push, ri_icge, r_goto, is_1, ri_icne, q_callV2, gq_0, gq_1, gq_2, gq_3, gq_4, il_1, q_iast, q_callV1, ri_ifeq, is_2, is_3, il_2, q_callV0, il_3, ri_ifne, r_zret, ii_3, ri_iceq, ri_icle, r_dup, r_iadd, q_putI, kd_0, kd_1, kd_2, kd_3, kd_4, kd_5, ln_0, ln_1, ln_2, ln_3, ln_4, ln_5, Option.some.injEq, Value.int.injEq, Value.ref.injEq, Value.long.injEq, Prod.mk.injEq, exists_eq_left', exists_eq_left, true_and, and_true, mLk, Option.any_some, mC1, Value.category, Option.toList_some, Option.toList_none, List.nil_append, List.cons_append, List.length_cons, List.length_nil, ne_eq, Nat.reduceEqDiff, not_false_eq_true, reduceCtorEq, exists_and_left, exists_and_right, Nat.reduceLeDiff, Nat.reduceAdd, and_self, exists_eq, exists_eq_right, exists_const, eq_self, exists_eq', not_true_eq_false, false_implies, true_implies, implies_true, forall_const, or_true, true_or, false_or, or_false, and_false, false_and, if_true, if_false, ite_true, ite_false, mB, mOk_int, mOk_ref, mOk_null, mOk_long, Nat.reduceLT, Nat.reduceSub, Nat.reduceMul, Nat.reduceDiv, Nat.reduceMod, Classical.not_not, ↓reduceIte, Nat.zero_add, Nat.add_zero, Nat.add_sub_cancel, Bool.false_eq_true, tN_l, tN_m1, tN_n1, tN_n8, tN_dec, tN_dec8, aF_ef, aF_nf, aF_U, tN_lt, tN_le, tN_inj, tN_add, tN_mul, tN_sub, tN_and, tN_or, tN_xor, tN_and31, tN_clamp, tN_in, tN_div, nm_rem, tN_shl, tN_shr, tN_b2, nd_lt, nd_nlt, nd_le, nd_nle, nd_eq, nd_ne, mN_at, mN_U, aU_ne, aU_eq, aU_ne2, e154, f159]
end

set_option maxRecDepth 20000
set_option maxHeartbeats 4000000
/-! MODEL: by most, and the three ways -/
theorem siO_hi {mo O : Nat → Nat} {n i : Nat} (hi : i < n) : ∀ k, k ≤ i → siO mo (idO n O) k i = i
  | 0, _ => if_pos hi
  | k + 1, h => by
    show mvD (siO mo (idO n O) k) k (siP mo (siO mo (idO n O) k) k k) i = i
    have := siP_le (mo := mo) (O := siO mo (idO n O) k) (a := k) k
    unfold mvD
    rw [if_neg (by omega), if_neg (by omega)]
    exact siO_hi hi k (by omega)
theorem ml_130b {X : mX} {D : Nat} {cap : Nat × Nat} {P : mPost} {G : mG} {A : Nat → Nat → Nat} {S : Nat → Nat} {a : Nat} (ha : a < A 193 0) (hn : A 193 0 ≤ 12) (hS : ∀ i, i < A 193 0 → S i < A 193 0) (hm : ∀ i, i < A 193 0 → A 195 i ≤ 999) (hSa : S a = a) : ∀ p, p ≤ a → mW (mCall X D) X cap 130 P 14 [.ref 185, .int (tN a), .int (tN p)] [] (mN (aF A 214 (fun i => if p < i ∧ i ≤ a then S (i - 1) else if i < a then S i else A 214 i)), RF, G, mSh) = mW (mCall X D) X cap 130 P 2 [.ref 185, .int (tN (a + 1)), .int (tN (siP (A 195) S a p))] [] (mN (aF A 214 (fun i => if i < a + 1 then mvD S a (siP (A 195) S a p) i else A 214 i)), RF, G, mSh) := by
  have m1 := hm a ha
  have fin : ∀ p, p ≤ a → (fun j => if j = p then a else if p < j ∧ j ≤ a then S (j - 1) else if j < a then S j else A 214 j) = (fun i => if i < a + 1 then mvD S a p i else A 214 i) := by
    intro p hp
    funext j
    unfold mvD
    by_cases c1 : j = p
    · rw [if_pos c1, if_pos (by omega), if_pos c1, hSa]
    · rw [if_neg c1]
      by_cases c2 : p < j ∧ j ≤ a
      · rw [if_pos c2, if_pos (by omega), if_neg c1, if_pos c2]
      · rw [if_neg c2]
        by_cases c3 : j < a
        · rw [if_pos c3, if_pos (by omega), if_neg c1, if_neg c2]
        · rw [if_neg c3, if_neg (by omega)]
  intro p
  induction p with
  | zero =>
    intro hp
    rw [kh_130_14]
    simp (disch := first | omega | assumption | exact mOk_int | exact mOk_null | exact mOk_ref | (simp (disch := omega) only [aF_ef, aF_nf, aU_ne, aU_eq, aU_ne2]; first | done | omega | assumption)) only [k_130_0, k_130_1, r_push, is_1, il_1, al_0, gq_0, gq_1, gq_2, gq_3, gq_4, q_iald, ri_icge, is_2, il_2, ri_ifle, r_isub, q_iast, ii_2, r_goto, ii_1, r_vret, kd_0, kd_1, kd_2, kd_3, kd_4, kd_5, ln_0, ln_1, ln_2, ln_3, ln_4, ln_5, Option.some.injEq, Value.int.injEq, Value.ref.injEq, Value.long.injEq, Prod.mk.injEq, exists_eq_left', exists_eq_left, true_and, and_true, mLk, Option.any_some, mC1, Value.category, Option.toList_some, Option.toList_none, List.nil_append, List.cons_append, List.length_cons, List.length_nil, ne_eq, Nat.reduceEqDiff, not_false_eq_true, reduceCtorEq, exists_and_left, exists_and_right, Nat.reduceLeDiff, Nat.reduceAdd, and_self, exists_eq, exists_eq_right, exists_const, eq_self, exists_eq', not_true_eq_false, false_implies, true_implies, implies_true, forall_const, or_true, true_or, false_or, or_false, and_false, false_and, if_true, if_false, ite_true, ite_false, mB, mOk_int, mOk_ref, mOk_null, mOk_long, Nat.reduceLT, Nat.reduceSub, Nat.reduceMul, Nat.reduceDiv, Nat.reduceMod, Classical.not_not, ↓reduceIte, Nat.zero_add, Nat.add_zero, Nat.add_sub_cancel, Bool.false_eq_true, tN_l, tN_m1, tN_n1, tN_n8, tN_dec, tN_dec8, aF_ef, aF_nf, aF_U, tN_lt, tN_le, tN_inj, tN_add, tN_mul, tN_sub, tN_and, tN_or, tN_xor, tN_and31, tN_clamp, tN_in, tN_div, nm_rem, tN_shl, tN_shr, tN_b2, nd_lt, nd_nlt, nd_le, nd_nle, nd_eq, nd_ne, mN_at, mN_U, aU_ne, aU_eq, aU_ne2, siP]
    refine congrArg (fun z => mW (mCall X D) X cap 130 P 2 [.ref 185, .int (tN (a + 1)), .int (tN 0)] [] (mN (aF A 214 z), RF, G, mSh)) (funext fun j => ?_)
    unfold mvD
    by_cases c1 : j = 0
    · rw [if_pos c1, if_pos (by omega), if_pos c1, hSa]
    · rw [if_neg c1]
      by_cases c2 : j ≤ a
      · rw [if_pos c2, if_pos (by omega), if_neg c1, if_pos (by omega)]
      · rw [if_neg c2, if_neg (by omega)]
  | succ p ih =>
    intro hp
    have m2 := hm (S p) (hS p (by omega))
    have s1 := hS p (by omega)
    have ih' := ih (by omega)
    have ev : (if p + 1 < p ∧ p ≤ a then S (p - 1) else if p < a then S p else A 214 p) = S p := by
      rw [if_neg (by omega), if_pos (by omega)]
    rw [kh_130_14]
    by_cases c : A 195 (S p) < A 195 a
    · unfold siP
      rw [if_pos c]
      simp (disch := first | omega | assumption | exact mOk_int | exact mOk_null | exact mOk_ref | (simp (disch := omega) only [aF_ef, aF_nf, aU_ne, aU_eq, aU_ne2]; first | done | omega | assumption)) only [k_130_0, k_130_1, r_push, is_1, il_1, al_0, gq_0, gq_1, gq_2, gq_3, gq_4, q_iald, ri_icge, is_2, il_2, ri_ifle, r_isub, q_iast, ii_2, r_goto, ii_1, r_vret, kd_0, kd_1, kd_2, kd_3, kd_4, kd_5, ln_0, ln_1, ln_2, ln_3, ln_4, ln_5, Option.some.injEq, Value.int.injEq, Value.ref.injEq, Value.long.injEq, Prod.mk.injEq, exists_eq_left', exists_eq_left, true_and, and_true, mLk, Option.any_some, mC1, Value.category, Option.toList_some, Option.toList_none, List.nil_append, List.cons_append, List.length_cons, List.length_nil, ne_eq, Nat.reduceEqDiff, not_false_eq_true, reduceCtorEq, exists_and_left, exists_and_right, Nat.reduceLeDiff, Nat.reduceAdd, and_self, exists_eq, exists_eq_right, exists_const, eq_self, exists_eq', not_true_eq_false, false_implies, true_implies, implies_true, forall_const, or_true, true_or, false_or, or_false, and_false, false_and, if_true, if_false, ite_true, ite_false, mB, mOk_int, mOk_ref, mOk_null, mOk_long, Nat.reduceLT, Nat.reduceSub, Nat.reduceMul, Nat.reduceDiv, Nat.reduceMod, Classical.not_not, ↓reduceIte, Nat.zero_add, Nat.add_zero, Nat.add_sub_cancel, Bool.false_eq_true, tN_l, tN_m1, tN_n1, tN_n8, tN_dec, tN_dec8, aF_ef, aF_nf, aF_U, tN_lt, tN_le, tN_inj, tN_add, tN_mul, tN_sub, tN_and, tN_or, tN_xor, tN_and31, tN_clamp, tN_in, tN_div, nm_rem, tN_shl, tN_shr, tN_b2, nd_lt, nd_nlt, nd_le, nd_nle, nd_eq, nd_ne, mN_at, mN_U, aU_ne, aU_eq, aU_ne2, ev]
      rw [← ih']
      refine congrArg (fun z => mW (mCall X D) X cap 130 P 14 _ [] (mN (aF A 214 z), RF, G, mSh)) (funext fun j => ?_)
      by_cases h1 : j = p + 1
      · rw [if_pos h1, if_pos (by omega), h1, Nat.add_sub_cancel]
      · rw [if_neg h1]
        by_cases h2 : p + 1 < j ∧ j ≤ a
        · rw [if_pos h2, if_pos (by omega)]
        · rw [if_neg h2]
          by_cases h3 : j < a
          · rw [if_pos h3, if_neg (by omega)]
          · rw [if_neg h3, if_neg (by omega)]
    · unfold siP
      rw [if_neg c]
      simp (disch := first | omega | assumption | exact mOk_int | exact mOk_null | exact mOk_ref | (simp (disch := omega) only [aF_ef, aF_nf, aU_ne, aU_eq, aU_ne2]; first | done | omega | assumption)) only [k_130_0, k_130_1, r_push, is_1, il_1, al_0, gq_0, gq_1, gq_2, gq_3, gq_4, q_iald, ri_icge, is_2, il_2, ri_ifle, r_isub, q_iast, ii_2, r_goto, ii_1, r_vret, kd_0, kd_1, kd_2, kd_3, kd_4, kd_5, ln_0, ln_1, ln_2, ln_3, ln_4, ln_5, Option.some.injEq, Value.int.injEq, Value.ref.injEq, Value.long.injEq, Prod.mk.injEq, exists_eq_left', exists_eq_left, true_and, and_true, mLk, Option.any_some, mC1, Value.category, Option.toList_some, Option.toList_none, List.nil_append, List.cons_append, List.length_cons, List.length_nil, ne_eq, Nat.reduceEqDiff, not_false_eq_true, reduceCtorEq, exists_and_left, exists_and_right, Nat.reduceLeDiff, Nat.reduceAdd, and_self, exists_eq, exists_eq_right, exists_const, eq_self, exists_eq', not_true_eq_false, false_implies, true_implies, implies_true, forall_const, or_true, true_or, false_or, or_false, and_false, false_and, if_true, if_false, ite_true, ite_false, mB, mOk_int, mOk_ref, mOk_null, mOk_long, Nat.reduceLT, Nat.reduceSub, Nat.reduceMul, Nat.reduceDiv, Nat.reduceMod, Classical.not_not, ↓reduceIte, Nat.zero_add, Nat.add_zero, Nat.add_sub_cancel, Bool.false_eq_true, tN_l, tN_m1, tN_n1, tN_n8, tN_dec, tN_dec8, aF_ef, aF_nf, aF_U, tN_lt, tN_le, tN_inj, tN_add, tN_mul, tN_sub, tN_and, tN_or, tN_xor, tN_and31, tN_clamp, tN_in, tN_div, nm_rem, tN_shl, tN_shr, tN_b2, nd_lt, nd_nlt, nd_le, nd_nle, nd_eq, nd_ne, mN_at, mN_U, aU_ne, aU_eq, aU_ne2, ev]
      rw [fin (p + 1) hp]
theorem ml_130 {X : mX} {D : Nat} {cap : Nat × Nat} {P : mPost} {G : mG} {A : Nat → Nat → Nat} {O : Nat → Nat} (hn : A 193 0 ≤ 12) (hm : ∀ i, i < A 193 0 → A 195 i ≤ 999) : ∀ m k u, k + m = A 193 0 → mOk u = true → mW (mCall X D) X cap 130 P 2 [.ref 185, .int (tN k), u] [] (mN (aF A 214 (fun i => if i < k then siO (A 195) (idO (A 193 0) O) k i else A 214 i)), RF, G, mSh) = P none (mN (aF A 214 (fun i => if i < A 193 0 then siO (A 195) (idO (A 193 0) O) (A 193 0) i else A 214 i)), RF, G, mSh) := by
  intro m
  induction m with
  | zero =>
    intro k u h gu
    obtain rfl : k = A 193 0 := by omega
    rw [kh_130_2]
    simp (disch := first | omega | assumption | exact mOk_int | exact mOk_null | exact mOk_ref | (simp (disch := omega) only [aF_ef, aF_nf, aU_ne, aU_eq, aU_ne2]; first | done | omega | assumption)) only [k_130_0, k_130_1, r_push, is_1, il_1, al_0, gq_0, gq_1, gq_2, gq_3, gq_4, q_iald, ri_icge, is_2, il_2, ri_ifle, r_isub, q_iast, ii_2, r_goto, ii_1, r_vret, kd_0, kd_1, kd_2, kd_3, kd_4, kd_5, ln_0, ln_1, ln_2, ln_3, ln_4, ln_5, Option.some.injEq, Value.int.injEq, Value.ref.injEq, Value.long.injEq, Prod.mk.injEq, exists_eq_left', exists_eq_left, true_and, and_true, mLk, Option.any_some, mC1, Value.category, Option.toList_some, Option.toList_none, List.nil_append, List.cons_append, List.length_cons, List.length_nil, ne_eq, Nat.reduceEqDiff, not_false_eq_true, reduceCtorEq, exists_and_left, exists_and_right, Nat.reduceLeDiff, Nat.reduceAdd, and_self, exists_eq, exists_eq_right, exists_const, eq_self, exists_eq', not_true_eq_false, false_implies, true_implies, implies_true, forall_const, or_true, true_or, false_or, or_false, and_false, false_and, if_true, if_false, ite_true, ite_false, mB, mOk_int, mOk_ref, mOk_null, mOk_long, Nat.reduceLT, Nat.reduceSub, Nat.reduceMul, Nat.reduceDiv, Nat.reduceMod, Classical.not_not, ↓reduceIte, Nat.zero_add, Nat.add_zero, Nat.add_sub_cancel, Bool.false_eq_true, tN_l, tN_m1, tN_n1, tN_n8, tN_dec, tN_dec8, aF_ef, aF_nf, aF_U, tN_lt, tN_le, tN_inj, tN_add, tN_mul, tN_sub, tN_and, tN_or, tN_xor, tN_and31, tN_clamp, tN_in, tN_div, nm_rem, tN_shl, tN_shr, tN_b2, nd_lt, nd_nlt, nd_le, nd_nle, nd_eq, nd_ne, mN_at, mN_U, aU_ne, aU_eq, aU_ne2]
  | succ m ih =>
    intro k u h gu
    have lb := ml_130b (X := X) (D := D) (cap := cap) (P := P) (G := G) (A := A) (S := siO (A 195) (idO (A 193 0) O) k) (a := k) (by omega) hn (siO_lt (fun i hi => by unfold idO; rw [if_pos hi]; exact hi) k (by omega)) hm (siO_hi (by omega) k (Nat.le_refl k)) k (Nat.le_refl k)
    have e0 : (fun i => if k < i ∧ i ≤ k then siO (A 195) (idO (A 193 0) O) k (i - 1) else if i < k then siO (A 195) (idO (A 193 0) O) k i else A 214 i) = (fun i => if i < k then siO (A 195) (idO (A 193 0) O) k i else A 214 i) := funext fun i => if_neg (by omega)
    rw [e0] at lb
    rw [kh_130_2]
    simp (disch := first | omega | assumption | exact mOk_int | exact mOk_null | exact mOk_ref | (simp (disch := omega) only [aF_ef, aF_nf, aU_ne, aU_eq, aU_ne2]; first | done | omega | assumption)) only [k_130_0, k_130_1, r_push, is_1, il_1, al_0, gq_0, gq_1, gq_2, gq_3, gq_4, q_iald, ri_icge, is_2, il_2, ri_ifle, r_isub, q_iast, ii_2, r_goto, ii_1, r_vret, kd_0, kd_1, kd_2, kd_3, kd_4, kd_5, ln_0, ln_1, ln_2, ln_3, ln_4, ln_5, Option.some.injEq, Value.int.injEq, Value.ref.injEq, Value.long.injEq, Prod.mk.injEq, exists_eq_left', exists_eq_left, true_and, and_true, mLk, Option.any_some, mC1, Value.category, Option.toList_some, Option.toList_none, List.nil_append, List.cons_append, List.length_cons, List.length_nil, ne_eq, Nat.reduceEqDiff, not_false_eq_true, reduceCtorEq, exists_and_left, exists_and_right, Nat.reduceLeDiff, Nat.reduceAdd, and_self, exists_eq, exists_eq_right, exists_const, eq_self, exists_eq', not_true_eq_false, false_implies, true_implies, implies_true, forall_const, or_true, true_or, false_or, or_false, and_false, false_and, if_true, if_false, ite_true, ite_false, mB, mOk_int, mOk_ref, mOk_null, mOk_long, Nat.reduceLT, Nat.reduceSub, Nat.reduceMul, Nat.reduceDiv, Nat.reduceMod, Classical.not_not, ↓reduceIte, Nat.zero_add, Nat.add_zero, Nat.add_sub_cancel, Bool.false_eq_true, tN_l, tN_m1, tN_n1, tN_n8, tN_dec, tN_dec8, aF_ef, aF_nf, aF_U, tN_lt, tN_le, tN_inj, tN_add, tN_mul, tN_sub, tN_and, tN_or, tN_xor, tN_and31, tN_clamp, tN_in, tN_div, nm_rem, tN_shl, tN_shr, tN_b2, nd_lt, nd_nlt, nd_le, nd_nle, nd_eq, nd_ne, mN_at, mN_U, aU_ne, aU_eq, aU_ne2]
    rw [lb]
    exact ih (k + 1) _ (by omega) mOk_int
theorem m_130 {X : mX} {D : Nat} {P : mPost} {A : Nat → Nat → Nat} {G : mG} {O : Nat → Nat} (hD : 1 ≤ D) (hn : A 193 0 ≤ 12) (hm : ∀ i, i < A 193 0 → A 195 i ≤ 999) : mCall X D 130 [.ref 185] (mN A, RF, G, mSh) P = P none (mN (aF A 214 (fun i => if i < A 193 0 then siO (A 195) (idO (A 193 0) O) (A 193 0) i else A 214 i)), RF, G, mSh) := by
  have := ml_130 (X := X) (D := D - 1) (cap := (mSh.length + (mAl 130).fst, mSum mSh + (mAl 130).snd)) (P := P) (G := G) (A := A) (O := O) hn hm (A 193 0) 0 .null (by omega) mOk_null
  rw [aF_id (c := 214) (g := fun i => if i < 0 then siO (A 195) (idO (A 193 0) O) 0 i else A 214 i) (fun j => if_neg (by omega))] at this
  rw [e_130 (by omega)]
  simp (disch := first | omega | assumption | exact mOk_int | exact mOk_null | exact mOk_ref | (simp (disch := omega) only [aF_ef, aF_nf, aU_ne, aU_eq, aU_ne2]; first | done | omega | assumption)) only [k_130_0, k_130_1, r_push, is_1, il_1, al_0, gq_0, gq_1, gq_2, gq_3, gq_4, q_iald, ri_icge, is_2, il_2, ri_ifle, r_isub, q_iast, ii_2, r_goto, ii_1, r_vret, kd_0, kd_1, kd_2, kd_3, kd_4, kd_5, ln_0, ln_1, ln_2, ln_3, ln_4, ln_5, Option.some.injEq, Value.int.injEq, Value.ref.injEq, Value.long.injEq, Prod.mk.injEq, exists_eq_left', exists_eq_left, true_and, and_true, mLk, Option.any_some, mC1, Value.category, Option.toList_some, Option.toList_none, List.nil_append, List.cons_append, List.length_cons, List.length_nil, ne_eq, Nat.reduceEqDiff, not_false_eq_true, reduceCtorEq, exists_and_left, exists_and_right, Nat.reduceLeDiff, Nat.reduceAdd, and_self, exists_eq, exists_eq_right, exists_const, eq_self, exists_eq', not_true_eq_false, false_implies, true_implies, implies_true, forall_const, or_true, true_or, false_or, or_false, and_false, false_and, if_true, if_false, ite_true, ite_false, mB, mOk_int, mOk_ref, mOk_null, mOk_long, Nat.reduceLT, Nat.reduceSub, Nat.reduceMul, Nat.reduceDiv, Nat.reduceMod, Classical.not_not, ↓reduceIte, Nat.zero_add, Nat.add_zero, Nat.add_sub_cancel, Bool.false_eq_true, tN_l, tN_m1, tN_n1, tN_n8, tN_dec, tN_dec8, aF_ef, aF_nf, aF_U, tN_lt, tN_le, tN_inj, tN_add, tN_mul, tN_sub, tN_and, tN_or, tN_xor, tN_and31, tN_clamp, tN_in, tN_div, nm_rem, tN_shl, tN_shr, tN_b2, nd_lt, nd_nlt, nd_le, nd_nle, nd_eq, nd_ne, mN_at, mN_U, aU_ne, aU_eq, aU_ne2]
  exact this
theorem drS_0 {O : Nat → Nat} {n : Nat} : ∀ k, drS O n 0 k = (O, 0)
  | 0 => rfl
  | k + 1 => by
    show (mvD (drS O n 0 k).1 (k + (drS O n 0 k).2 / fac (n - 1 - k)) k, (drS O n 0 k).2 % fac (n - 1 - k)) = _
    rw [drS_0 k]
    show (mvD O (k + 0 / _) k, 0 % _) = _
    rw [Nat.zero_div, Nat.zero_mod, Nat.add_zero]
    congr 1
    funext i
    unfold mvD
    by_cases c : i = k
    · rw [if_pos c, c]
    · rw [if_neg c, if_neg (by omega)]
theorem m_127n {X : mX} {D : Nat} {P : mPost} {A : Nat → Nat → Nat} {G : mG} {way t : Nat} (hD : 2 ≤ D) (hn : A 193 0 ≤ 12) (hw : way < 4294967296) (ht : t < 4294967296) (hk : ¬ okW (A 193 0) way t) : mCall X D 127 [.ref 185, .int (tN way), .int (tN t)] (mN A, RF, G, mSh) P = P (some (.int (tN (0)))) (mN A, RF, G, mSh) := by
  unfold okW at hk
  have hf := fac_le hn
  have hf2 := fac_pos (A 193 0)
  have e124 := fun P' => m_124 (X := X) (D := D - 1) (P := P') (σ := (mN A, RF, G, mSh)) (v := way) (lo := 0) (hi := 2) (by omega) hw (by omega) (by omega)
  have e124b := fun P' => m_124 (X := X) (D := D - 1) (P := P') (σ := (mN A, RF, G, mSh)) (v := t) (lo := 0) (hi := fac (A 193 0) - 1) (by omega) ht (by omega) (by omega)
  rw [e_127 (by omega)]
  by_cases c1 : A 193 0 < 1
  · simp (disch := first | omega | assumption | exact mOk_int | exact mOk_null | exact mOk_ref | (simp (disch := omega) only [aF_ef, aF_nf, aU_ne, aU_eq, aU_ne2]; first | done | omega | assumption)) only [k_127_0, k_127_1, al_0, gq_0, gq_1, gq_2, gq_3, gq_4, r_push, q_iald, ri_ifeq, il_1, r_callS3, ri_ifne, il_2, r_callS1, r_isub, r_zret, q_callV1, r_goto, ri_icne, q_callV0, kd_0, kd_1, kd_2, kd_3, kd_4, kd_5, ln_0, ln_1, ln_2, ln_3, ln_4, ln_5, Option.some.injEq, Value.int.injEq, Value.ref.injEq, Value.long.injEq, Prod.mk.injEq, exists_eq_left', exists_eq_left, true_and, and_true, mLk, Option.any_some, mC1, Value.category, Option.toList_some, Option.toList_none, List.nil_append, List.cons_append, List.length_cons, List.length_nil, ne_eq, Nat.reduceEqDiff, not_false_eq_true, reduceCtorEq, exists_and_left, exists_and_right, Nat.reduceLeDiff, Nat.reduceAdd, and_self, exists_eq, exists_eq_right, exists_const, eq_self, exists_eq', not_true_eq_false, false_implies, true_implies, implies_true, forall_const, or_true, true_or, false_or, or_false, and_false, false_and, if_true, if_false, ite_true, ite_false, mB, mOk_int, mOk_ref, mOk_null, mOk_long, Nat.reduceLT, Nat.reduceSub, Nat.reduceMul, Nat.reduceDiv, Nat.reduceMod, Classical.not_not, ↓reduceIte, Nat.zero_add, Nat.add_zero, Nat.add_sub_cancel, Bool.false_eq_true, tN_l, tN_m1, tN_n1, tN_n8, tN_dec, tN_dec8, aF_ef, aF_nf, aF_U, tN_lt, tN_le, tN_inj, tN_add, tN_mul, tN_sub, tN_and, tN_or, tN_xor, tN_and31, tN_clamp, tN_in, tN_div, nm_rem, tN_shl, tN_shr, tN_b2, nd_lt, nd_nlt, nd_le, nd_nle, nd_eq, nd_ne, mN_at, mN_U, aU_ne, aU_eq, aU_ne2]
  · by_cases c3 : way ≤ 2
    · have c4 : way = 0 := by
        by_cases z : way = 0
        · exact z
        · exact absurd ⟨by omega, c3, fun y => absurd y z⟩ hk
      subst c4
      have c5 : ¬ t < fac (A 193 0) := fun z => hk ⟨by omega, by omega, fun _ => z⟩
      rw [if_neg (by omega)] at e124b
      simp (disch := first | omega | assumption | exact mOk_int | exact mOk_null | exact mOk_ref | (simp (disch := omega) only [aF_ef, aF_nf, aU_ne, aU_eq, aU_ne2]; first | done | omega | assumption)) only [k_127_0, k_127_1, al_0, gq_0, gq_1, gq_2, gq_3, gq_4, r_push, q_iald, ri_ifeq, il_1, r_callS3, ri_ifne, il_2, r_callS1, r_isub, r_zret, q_callV1, r_goto, ri_icne, q_callV0, kd_0, kd_1, kd_2, kd_3, kd_4, kd_5, ln_0, ln_1, ln_2, ln_3, ln_4, ln_5, Option.some.injEq, Value.int.injEq, Value.ref.injEq, Value.long.injEq, Prod.mk.injEq, exists_eq_left', exists_eq_left, true_and, and_true, mLk, Option.any_some, mC1, Value.category, Option.toList_some, Option.toList_none, List.nil_append, List.cons_append, List.length_cons, List.length_nil, ne_eq, Nat.reduceEqDiff, not_false_eq_true, reduceCtorEq, exists_and_left, exists_and_right, Nat.reduceLeDiff, Nat.reduceAdd, and_self, exists_eq, exists_eq_right, exists_const, eq_self, exists_eq', not_true_eq_false, false_implies, true_implies, implies_true, forall_const, or_true, true_or, false_or, or_false, and_false, false_and, if_true, if_false, ite_true, ite_false, mB, mOk_int, mOk_ref, mOk_null, mOk_long, Nat.reduceLT, Nat.reduceSub, Nat.reduceMul, Nat.reduceDiv, Nat.reduceMod, Classical.not_not, ↓reduceIte, Nat.zero_add, Nat.add_zero, Nat.add_sub_cancel, Bool.false_eq_true, tN_l, tN_m1, tN_n1, tN_n8, tN_dec, tN_dec8, aF_ef, aF_nf, aF_U, tN_lt, tN_le, tN_inj, tN_add, tN_mul, tN_sub, tN_and, tN_or, tN_xor, tN_and31, tN_clamp, tN_in, tN_div, nm_rem, tN_shl, tN_shr, tN_b2, nd_lt, nd_nlt, nd_le, nd_nle, nd_eq, nd_ne, mN_at, mN_U, aU_ne, aU_eq, aU_ne2, e124, m_128, e124b]
    · rw [if_neg (by omega)] at e124
      simp (disch := first | omega | assumption | exact mOk_int | exact mOk_null | exact mOk_ref | (simp (disch := omega) only [aF_ef, aF_nf, aU_ne, aU_eq, aU_ne2]; first | done | omega | assumption)) only [k_127_0, k_127_1, al_0, gq_0, gq_1, gq_2, gq_3, gq_4, r_push, q_iald, ri_ifeq, il_1, r_callS3, ri_ifne, il_2, r_callS1, r_isub, r_zret, q_callV1, r_goto, ri_icne, q_callV0, kd_0, kd_1, kd_2, kd_3, kd_4, kd_5, ln_0, ln_1, ln_2, ln_3, ln_4, ln_5, Option.some.injEq, Value.int.injEq, Value.ref.injEq, Value.long.injEq, Prod.mk.injEq, exists_eq_left', exists_eq_left, true_and, and_true, mLk, Option.any_some, mC1, Value.category, Option.toList_some, Option.toList_none, List.nil_append, List.cons_append, List.length_cons, List.length_nil, ne_eq, Nat.reduceEqDiff, not_false_eq_true, reduceCtorEq, exists_and_left, exists_and_right, Nat.reduceLeDiff, Nat.reduceAdd, and_self, exists_eq, exists_eq_right, exists_const, eq_self, exists_eq', not_true_eq_false, false_implies, true_implies, implies_true, forall_const, or_true, true_or, false_or, or_false, and_false, false_and, if_true, if_false, ite_true, ite_false, mB, mOk_int, mOk_ref, mOk_null, mOk_long, Nat.reduceLT, Nat.reduceSub, Nat.reduceMul, Nat.reduceDiv, Nat.reduceMod, Classical.not_not, ↓reduceIte, Nat.zero_add, Nat.add_zero, Nat.add_sub_cancel, Bool.false_eq_true, tN_l, tN_m1, tN_n1, tN_n8, tN_dec, tN_dec8, aF_ef, aF_nf, aF_U, tN_lt, tN_le, tN_inj, tN_add, tN_mul, tN_sub, tN_and, tN_or, tN_xor, tN_and31, tN_clamp, tN_in, tN_div, nm_rem, tN_shl, tN_shr, tN_b2, nd_lt, nd_nlt, nd_le, nd_nle, nd_eq, nd_ne, mN_at, mN_U, aU_ne, aU_eq, aU_ne2, e124]
theorem m_127 {X : mX} {D : Nat} {P : mPost} {A : Nat → Nat → Nat} {G : mG} {O : Nat → Nat} {way t : Nat} (hD : 3 ≤ D) (hn : A 193 0 ≤ 12) (hm : ∀ i, i < A 193 0 → A 195 i ≤ 999) (hk : okW (A 193 0) way t) : mCall X D 127 [.ref 185, .int (tN way), .int (tN t)] (mN A, RF, G, mSh) P = P (some (.int (tN (1)))) (mN (aF A 214 (fun i => if i < A 193 0 then ordW (A 195) (A 193 0) way t O i else A 214 i)), RF, G, mSh) := by
  obtain ⟨h1, h2, h3⟩ := hk
  have hf := fac_le hn
  have hf2 := fac_pos (A 193 0)
  have e124 := fun P' => m_124 (X := X) (D := D - 1) (P := P') (σ := (mN A, RF, G, mSh)) (v := way) (lo := 0) (hi := 2) (by omega) (by omega) (by omega) (by omega)
  rw [if_pos (by omega)] at e124
  rw [e_127 (by omega)]
  unfold ordW
  have : way = 0 ∨ way = 1 ∨ way = 2 := by omega
  rcases this with rfl | rfl | rfl
  · have h4 := h3 rfl
    have e124b := fun P' => m_124 (X := X) (D := D - 1) (P := P') (σ := (mN A, RF, G, mSh)) (v := t) (lo := 0) (hi := fac (A 193 0) - 1) (by omega) (by omega) (by omega) (by omega)
    rw [if_pos (by omega)] at e124b
    have e129 := fun P' => m_129 (X := X) (D := D - 1) (P := P') (G := G) (A := A) (O := O) (t := t) (by omega) hn h4
    simp only [if_true]
    simp (disch := first | omega | assumption | exact mOk_int | exact mOk_null | exact mOk_ref | (simp (disch := omega) only [aF_ef, aF_nf, aU_ne, aU_eq, aU_ne2]; first | done | omega | assumption)) only [k_127_0, k_127_1, al_0, gq_0, gq_1, gq_2, gq_3, gq_4, r_push, q_iald, ri_ifeq, il_1, r_callS3, ri_ifne, il_2, r_callS1, r_isub, r_zret, q_callV1, r_goto, ri_icne, q_callV0, kd_0, kd_1, kd_2, kd_3, kd_4, kd_5, ln_0, ln_1, ln_2, ln_3, ln_4, ln_5, Option.some.injEq, Value.int.injEq, Value.ref.injEq, Value.long.injEq, Prod.mk.injEq, exists_eq_left', exists_eq_left, true_and, and_true, mLk, Option.any_some, mC1, Value.category, Option.toList_some, Option.toList_none, List.nil_append, List.cons_append, List.length_cons, List.length_nil, ne_eq, Nat.reduceEqDiff, not_false_eq_true, reduceCtorEq, exists_and_left, exists_and_right, Nat.reduceLeDiff, Nat.reduceAdd, and_self, exists_eq, exists_eq_right, exists_const, eq_self, exists_eq', not_true_eq_false, false_implies, true_implies, implies_true, forall_const, or_true, true_or, false_or, or_false, and_false, false_and, if_true, if_false, ite_true, ite_false, mB, mOk_int, mOk_ref, mOk_null, mOk_long, Nat.reduceLT, Nat.reduceSub, Nat.reduceMul, Nat.reduceDiv, Nat.reduceMod, Classical.not_not, ↓reduceIte, Nat.zero_add, Nat.add_zero, Nat.add_sub_cancel, Bool.false_eq_true, tN_l, tN_m1, tN_n1, tN_n8, tN_dec, tN_dec8, aF_ef, aF_nf, aF_U, tN_lt, tN_le, tN_inj, tN_add, tN_mul, tN_sub, tN_and, tN_or, tN_xor, tN_and31, tN_clamp, tN_in, tN_div, nm_rem, tN_shl, tN_shr, tN_b2, nd_lt, nd_nlt, nd_le, nd_nle, nd_eq, nd_ne, mN_at, mN_U, aU_ne, aU_eq, aU_ne2, e124, m_128, e124b, e129]
  · have e129 := fun P' => m_129 (X := X) (D := D - 1) (P := P') (G := G) (A := A) (O := O) (t := 0) (by omega) hn hf2
    rw [drS_0] at e129
    simp only [show ¬ (1 : Nat) = 0 by decide, if_false, if_true]
    simp (disch := first | omega | assumption | exact mOk_int | exact mOk_null | exact mOk_ref | (simp (disch := omega) only [aF_ef, aF_nf, aU_ne, aU_eq, aU_ne2]; first | done | omega | assumption)) only [k_127_0, k_127_1, al_0, gq_0, gq_1, gq_2, gq_3, gq_4, r_push, q_iald, ri_ifeq, il_1, r_callS3, ri_ifne, il_2, r_callS1, r_isub, r_zret, q_callV1, r_goto, ri_icne, q_callV0, kd_0, kd_1, kd_2, kd_3, kd_4, kd_5, ln_0, ln_1, ln_2, ln_3, ln_4, ln_5, Option.some.injEq, Value.int.injEq, Value.ref.injEq, Value.long.injEq, Prod.mk.injEq, exists_eq_left', exists_eq_left, true_and, and_true, mLk, Option.any_some, mC1, Value.category, Option.toList_some, Option.toList_none, List.nil_append, List.cons_append, List.length_cons, List.length_nil, ne_eq, Nat.reduceEqDiff, not_false_eq_true, reduceCtorEq, exists_and_left, exists_and_right, Nat.reduceLeDiff, Nat.reduceAdd, and_self, exists_eq, exists_eq_right, exists_const, eq_self, exists_eq', not_true_eq_false, false_implies, true_implies, implies_true, forall_const, or_true, true_or, false_or, or_false, and_false, false_and, if_true, if_false, ite_true, ite_false, mB, mOk_int, mOk_ref, mOk_null, mOk_long, Nat.reduceLT, Nat.reduceSub, Nat.reduceMul, Nat.reduceDiv, Nat.reduceMod, Classical.not_not, ↓reduceIte, Nat.zero_add, Nat.add_zero, Nat.add_sub_cancel, Bool.false_eq_true, tN_l, tN_m1, tN_n1, tN_n8, tN_dec, tN_dec8, aF_ef, aF_nf, aF_U, tN_lt, tN_le, tN_inj, tN_add, tN_mul, tN_sub, tN_and, tN_or, tN_xor, tN_and31, tN_clamp, tN_in, tN_div, nm_rem, tN_shl, tN_shr, tN_b2, nd_lt, nd_nlt, nd_le, nd_nle, nd_eq, nd_ne, mN_at, mN_U, aU_ne, aU_eq, aU_ne2, e124, e129]
  · have e130 := fun P' => m_130 (X := X) (D := D - 1) (P := P') (G := G) (A := A) (O := O) (by omega) hn hm
    simp only [show ¬ (2 : Nat) = 0 by decide, show ¬ (2 : Nat) = 1 by decide, if_false]
    simp (disch := first | omega | assumption | exact mOk_int | exact mOk_null | exact mOk_ref | (simp (disch := omega) only [aF_ef, aF_nf, aU_ne, aU_eq, aU_ne2]; first | done | omega | assumption)) only [k_127_0, k_127_1, al_0, gq_0, gq_1, gq_2, gq_3, gq_4, r_push, q_iald, ri_ifeq, il_1, r_callS3, ri_ifne, il_2, r_callS1, r_isub, r_zret, q_callV1, r_goto, ri_icne, q_callV0, kd_0, kd_1, kd_2, kd_3, kd_4, kd_5, ln_0, ln_1, ln_2, ln_3, ln_4, ln_5, Option.some.injEq, Value.int.injEq, Value.ref.injEq, Value.long.injEq, Prod.mk.injEq, exists_eq_left', exists_eq_left, true_and, and_true, mLk, Option.any_some, mC1, Value.category, Option.toList_some, Option.toList_none, List.nil_append, List.cons_append, List.length_cons, List.length_nil, ne_eq, Nat.reduceEqDiff, not_false_eq_true, reduceCtorEq, exists_and_left, exists_and_right, Nat.reduceLeDiff, Nat.reduceAdd, and_self, exists_eq, exists_eq_right, exists_const, eq_self, exists_eq', not_true_eq_false, false_implies, true_implies, implies_true, forall_const, or_true, true_or, false_or, or_false, and_false, false_and, if_true, if_false, ite_true, ite_false, mB, mOk_int, mOk_ref, mOk_null, mOk_long, Nat.reduceLT, Nat.reduceSub, Nat.reduceMul, Nat.reduceDiv, Nat.reduceMod, Classical.not_not, ↓reduceIte, Nat.zero_add, Nat.add_zero, Nat.add_sub_cancel, Bool.false_eq_true, tN_l, tN_m1, tN_n1, tN_n8, tN_dec, tN_dec8, aF_ef, aF_nf, aF_U, tN_lt, tN_le, tN_inj, tN_add, tN_mul, tN_sub, tN_and, tN_or, tN_xor, tN_and31, tN_clamp, tN_in, tN_div, nm_rem, tN_shl, tN_shr, tN_b2, nd_lt, nd_nlt, nd_le, nd_nle, nd_eq, nd_ne, mN_at, mN_U, aU_ne, aU_eq, aU_ne2, e124, e130]

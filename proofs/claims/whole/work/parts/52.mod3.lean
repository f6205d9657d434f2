set_option maxRecDepth 20000
set_option maxHeartbeats 4000000
/-! MODEL: a turn -/
def oSet (O : Nat → Nat) (pos : Nat → Nat) (a : Nat) : Nat → Nat → Nat
  | 0 => O
  | k + 1 => up (oSet O pos a k) (pos k) a
theorem oSet_hit {O pos : Nat → Nat} {a : Nat} : ∀ n k, k < n → oSet O pos a n (pos k) = a
  | 0, k, h => absurd h (by omega)
  | n + 1, k, h => by
    unfold oSet up
    by_cases e : pos k = pos n
    · rw [if_pos e]
    · rw [if_neg e]
      by_cases e2 : k = n
      · exact absurd (by rw [e2]) e
      · exact oSet_hit n k (by omega)
theorem oSet_miss {O pos : Nat → Nat} {a i : Nat} : ∀ n, (∀ k, k < n → i ≠ pos k) → oSet O pos a n i = O i
  | 0, _ => rfl
  | n + 1, h => by
    unfold oSet up
    rw [if_neg (h n (by omega))]
    exact oSet_miss n (fun k hk => h k (by omega))
theorem oSet_rng {O pos : Nat → Nat} {a q : Nat} : ∀ n, (∀ k, k < n → pos k = q + k) → oSet O pos a n = fun i => if q ≤ i ∧ i < q + n then a else O i
  | 0, _ => by
    funext i
    show O i = _
    rw [if_neg (by omega)]
  | n + 1, h => by
    funext i
    unfold oSet up
    rw [oSet_rng n (fun k hk => h k (by omega)), h n (by omega)]
    by_cases e : i = q + n
    · rw [if_pos e, if_pos (by omega)]
    · rw [if_neg e]
      show (if q ≤ i ∧ i < q + n then a else O i) = _
      by_cases e2 : q ≤ i ∧ i < q + n
      · rw [if_pos e2, if_pos (by omega)]
      · rw [if_neg e2, if_neg (by omega)]
theorem oSet_cg {O pos pos2 : Nat → Nat} {a : Nat} : ∀ n, (∀ k, k < n → pos k = pos2 k) → oSet O pos a n = oSet O pos2 a n
  | 0, _ => rfl
  | n + 1, h => by
    unfold oSet
    rw [oSet_cg n (fun k hk => h k (by omega)), h n (by omega)]
/-- where a place lies in the row of owners -/
def posN (h : Nat) (T : Nat → Nat) (k : Nat) : Nat := 72 * h + 12 * (T k / 100) + T k % 100
def stA (A : Nat → Nat → Nat) (h a p n : Nat) : Nat → Nat → Nat := aF (aF (aF A 211 (fun i => if 72 * h + 12 * (p / 100) + p % 100 ≤ i ∧ i < 72 * h + 12 * (p / 100) + p % 100 + n then a else A 211 i)) 213 (fun i => if 6 * (12 * h + a) + A 212 (12 * h + a) ≤ i ∧ i < 6 * (12 * h + a) + A 212 (12 * h + a) + n then p + (i - (6 * (12 * h + a) + A 212 (12 * h + a))) else A 213 i)) 212 (up (A 212) (12 * h + a) (A 212 (12 * h + a) + n))
theorem ml_138 {X : mX} {D : Nat} {cap : Nat × Nat} {P : mPost} {G : mG} {A : Nat → Nat → Nat} {h a p n : Nat} (hh : h ≤ 4) (ha : a < 12) (hp : p < 600) (hs : p % 100 + n ≤ 12) (hm : A 212 (12 * h + a) + n ≤ 6) : ∀ m j, j + m = n → mW (mCall X D) X cap 138 P 28 [.ref 185, .int (tN h), .int (tN a), .int (tN p), .int (tN n), .int (tN (p / 100)), .int (tN (p % 100)), .int (tN (p % 100 + j))] [] (mN (aF (aF A 213 (fun i => if 6 * (12 * h + a) + A 212 (12 * h + a) ≤ i ∧ i < 6 * (12 * h + a) + A 212 (12 * h + a) + j then p + (i - (6 * (12 * h + a) + A 212 (12 * h + a))) else A 213 i)) 212 (up (A 212) (12 * h + a) (A 212 (12 * h + a) + j))), RF, G, mSh) = P none (mN (aF (aF A 213 (fun i => if 6 * (12 * h + a) + A 212 (12 * h + a) ≤ i ∧ i < 6 * (12 * h + a) + A 212 (12 * h + a) + n then p + (i - (6 * (12 * h + a) + A 212 (12 * h + a))) else A 213 i)) 212 (up (A 212) (12 * h + a) (A 212 (12 * h + a) + n))), RF, G, mSh) := by
  intro m
  induction m with
  | zero =>
    intro j e
    obtain rfl : j = n := by omega
    rw [kh_138_28]
    simp (disch := first | omega | assumption | exact mOk_int | exact mOk_null | exact mOk_ref | (simp (disch := omega) only [aF_ef, aF_nf, aU_ne, aU_eq, aU_ne2]; first | done | omega | assumption)) only [k_138_0, k_138_1, il_3, r_push, r_idiv, is_5, r_irem, is_6, al_0, il_1, il_5, il_6, il_4, il_2, q_callV5, is_7, il_7, r_iadd, ri_icge, gq_0, gq_1, gq_2, gq_3, gq_4, r_imul, q_iald, q_iast, r_dup2, ii_7, r_goto, r_vret, kd_0, kd_1, kd_2, kd_3, kd_4, kd_5, ln_0, ln_1, ln_2, ln_3, ln_4, ln_5, Option.some.injEq, Value.int.injEq, Value.ref.injEq, Value.long.injEq, Prod.mk.injEq, exists_eq_left', exists_eq_left, true_and, and_true, mLk, Option.any_some, mC1, Value.category, Option.toList_some, Option.toList_none, List.nil_append, List.cons_append, List.length_cons, List.length_nil, ne_eq, Nat.reduceEqDiff, not_false_eq_true, reduceCtorEq, exists_and_left, exists_and_right, Nat.reduceLeDiff, Nat.reduceAdd, and_self, exists_eq, exists_eq_right, exists_const, eq_self, exists_eq', not_true_eq_false, false_implies, true_implies, implies_true, forall_const, or_true, true_or, false_or, or_false, and_false, false_and, if_true, if_false, ite_true, ite_false, mB, mOk_int, mOk_ref, mOk_null, mOk_long, Nat.reduceLT, Nat.reduceSub, Nat.reduceMul, Nat.reduceDiv, Nat.reduceMod, Classical.not_not, ↓reduceIte, Nat.zero_add, Nat.add_zero, Nat.add_sub_cancel, Bool.false_eq_true, tN_l, tN_m1, tN_n1, tN_n8, tN_dec, tN_dec8, aF_ef, aF_nf, aF_U, tN_lt, tN_le, tN_inj, tN_add, tN_mul, tN_sub, tN_and, tN_or, tN_xor, tN_and31, tN_clamp, tN_in, tN_div, nm_rem, tN_shl, tN_shr, tN_b2, nd_lt, nd_nlt, nd_le, nd_nle, nd_eq, nd_ne, mN_at, mN_U, aU_ne, aU_eq, aU_ne2]
  | succ m ih =>
    intro j e
    have ih' := ih (j + 1) (by omega)
    rw [kh_138_28]
    simp (disch := first | omega | assumption | exact mOk_int | exact mOk_null | exact mOk_ref | (simp (disch := omega) only [aF_ef, aF_nf, aU_ne, aU_eq, aU_ne2]; first | done | omega | assumption)) only [k_138_0, k_138_1, il_3, r_push, r_idiv, is_5, r_irem, is_6, al_0, il_1, il_5, il_6, il_4, il_2, q_callV5, is_7, il_7, r_iadd, ri_icge, gq_0, gq_1, gq_2, gq_3, gq_4, r_imul, q_iald, q_iast, r_dup2, ii_7, r_goto, r_vret, kd_0, kd_1, kd_2, kd_3, kd_4, kd_5, ln_0, ln_1, ln_2, ln_3, ln_4, ln_5, Option.some.injEq, Value.int.injEq, Value.ref.injEq, Value.long.injEq, Prod.mk.injEq, exists_eq_left', exists_eq_left, true_and, and_true, mLk, Option.any_some, mC1, Value.category, Option.toList_some, Option.toList_none, List.nil_append, List.cons_append, List.length_cons, List.length_nil, ne_eq, Nat.reduceEqDiff, not_false_eq_true, reduceCtorEq, exists_and_left, exists_and_right, Nat.reduceLeDiff, Nat.reduceAdd, and_self, exists_eq, exists_eq_right, exists_const, eq_self, exists_eq', not_true_eq_false, false_implies, true_implies, implies_true, forall_const, or_true, true_or, false_or, or_false, and_false, false_and, if_true, if_false, ite_true, ite_false, mB, mOk_int, mOk_ref, mOk_null, mOk_long, Nat.reduceLT, Nat.reduceSub, Nat.reduceMul, Nat.reduceDiv, Nat.reduceMod, Classical.not_not, ↓reduceIte, Nat.zero_add, Nat.add_zero, Nat.add_sub_cancel, Bool.false_eq_true, tN_l, tN_m1, tN_n1, tN_n8, tN_dec, tN_dec8, aF_ef, aF_nf, aF_U, tN_lt, tN_le, tN_inj, tN_add, tN_mul, tN_sub, tN_and, tN_or, tN_xor, tN_and31, tN_clamp, tN_in, tN_div, nm_rem, tN_shl, tN_shr, tN_b2, nd_lt, nd_nlt, nd_le, nd_nle, nd_eq, nd_ne, mN_at, mN_U, aU_ne, aU_eq, aU_ne2, up_eq, aF_U3]
    rw [show 6 * (12 * h + a) + (A 212 (12 * h + a) + j) = 6 * (12 * h + a) + A 212 (12 * h + a) + j from (Nat.add_assoc _ _ _).symm, lp_up2 (g := fun i => p + (i - (6 * (12 * h + a) + A 212 (12 * h + a)))) (h := A 213) (by show _ = p + (_ - _); omega)]
    rw [show (fun i => if i = 12 * h + a then A 212 (12 * h + a) + j + 1 else up (A 212) (12 * h + a) (A 212 (12 * h + a) + j) i) = up (A 212) (12 * h + a) (A 212 (12 * h + a) + (j + 1)) from up_up]
    exact ih'
theorem m_138 {X : mX} {D : Nat} {P : mPost} {A : Nat → Nat → Nat} {G : mG} {h a p n : Nat} (hD : 2 ≤ D) (hh : h ≤ 4) (ha : a < 12) (hp : p < 600) (hs : p % 100 + n ≤ 12) (hm : A 212 (12 * h + a) + n ≤ 6) : mCall X D 138 [.ref 185, .int (tN h), .int (tN a), .int (tN p), .int (tN n)] (mN A, RF, G, mSh) P = P none (mN (stA A h a p n), RF, G, mSh) := by
  have e137 := fun P' => m_137 (X := X) (D := D - 1) (P := P') (G := G) (A := A) (h := h) (r := p / 100) (s := p % 100) (n := n) (who := a) (by omega) hh (by omega) hs
  have := ml_138 (X := X) (D := D - 1) (cap := (mSh.length + (mAl 138).fst, mSum mSh + (mAl 138).snd)) (P := P) (G := G) (A := aF A 211 (fun i => if 72 * h + 12 * (p / 100) + p % 100 ≤ i ∧ i < 72 * h + 12 * (p / 100) + p % 100 + n then a else A 211 i)) (h := h) (a := a) (p := p) (n := n) hh ha hp hs (by rw [aF_nf (by omega)]; exact hm) n 0 (by omega)
  rw [aF_nf (show (212 : Nat) ≠ 211 by decide), aF_nf (show (213 : Nat) ≠ 211 by decide)] at this
  rw [show up (A 212) (12 * h + a) (A 212 (12 * h + a) + 0) = A 212 from up_id, aF_id (c := 213) (fun j => by rw [if_neg (by omega), aF_nf (by decide)]), aF_id (c := 212) (fun j => by rw [aF_nf (by decide)])] at this
  rw [e_138 (by omega)]
  unfold stA
  simp (disch := first | omega | assumption | exact mOk_int | exact mOk_null | exact mOk_ref | (simp (disch := omega) only [aF_ef, aF_nf, aU_ne, aU_eq, aU_ne2]; first | done | omega | assumption)) only [k_138_0, k_138_1, il_3, r_push, r_idiv, is_5, r_irem, is_6, al_0, il_1, il_5, il_6, il_4, il_2, q_callV5, is_7, il_7, r_iadd, ri_icge, gq_0, gq_1, gq_2, gq_3, gq_4, r_imul, q_iald, q_iast, r_dup2, ii_7, r_goto, r_vret, kd_0, kd_1, kd_2, kd_3, kd_4, kd_5, ln_0, ln_1, ln_2, ln_3, ln_4, ln_5, Option.some.injEq, Value.int.injEq, Value.ref.injEq, Value.long.injEq, Prod.mk.injEq, exists_eq_left', exists_eq_left, true_and, and_true, mLk, Option.any_some, mC1, Value.category, Option.toList_some, Option.toList_none, List.nil_append, List.cons_append, List.length_cons, List.length_nil, ne_eq, Nat.reduceEqDiff, not_false_eq_true, reduceCtorEq, exists_and_left, exists_and_right, Nat.reduceLeDiff, Nat.reduceAdd, and_self, exists_eq, exists_eq_right, exists_const, eq_self, exists_eq', not_true_eq_false, false_implies, true_implies, implies_true, forall_const, or_true, true_or, false_or, or_false, and_false, false_and, if_true, if_false, ite_true, ite_false, mB, mOk_int, mOk_ref, mOk_null, mOk_long, Nat.reduceLT, Nat.reduceSub, Nat.reduceMul, Nat.reduceDiv, Nat.reduceMod, Classical.not_not, ↓reduceIte, Nat.zero_add, Nat.add_zero, Nat.add_sub_cancel, Bool.false_eq_true, tN_l, tN_m1, tN_n1, tN_n8, tN_dec, tN_dec8, aF_ef, aF_nf, aF_U, tN_lt, tN_le, tN_inj, tN_add, tN_mul, tN_sub, tN_and, tN_or, tN_xor, tN_and31, tN_clamp, tN_in, tN_div, nm_rem, tN_shl, tN_shr, tN_b2, nd_lt, nd_nlt, nd_le, nd_nle, nd_eq, nd_ne, mN_at, mN_U, aU_ne, aU_eq, aU_ne2, e137, nm_rem1]
  exact this
/-- the state after a turn of a in the hall h, whose free seats are F -/
def mtA (A : Nat → Nat → Nat) (h a : Nat) (F : Nat → Nat) : Nat → Nat → Nat := aF (aF (aF A 211 (oSet (A 211) (posN h (ttP (A 192) F (A 194 a) (A 195 a) (A 190 0))) a (ttN (A 192) F (A 194 a) (A 195 a) (A 197 a) (A 190 0)))) 213 (fun i => if 6 * (12 * h + a) ≤ i ∧ i < 6 * (12 * h + a) + ttN (A 192) F (A 194 a) (A 195 a) (A 197 a) (A 190 0) then ttP (A 192) F (A 194 a) (A 195 a) (A 190 0) (i - 6 * (12 * h + a)) else A 213 i)) 212 (up (A 212) (12 * h + a) (ttN (A 192) F (A 194 a) (A 195 a) (A 197 a) (A 190 0)))
theorem ml_133a {X : mX} {D : Nat} {cap : Nat × Nat} {P : mPost} {G : mG} {A : Nat → Nat → Nat} {h a p : Nat} {F : Nat → Nat} (hD : 3 ≤ D) (hh : h ≤ 4) (ha : a < 12) (hnr : A 190 0 ≤ 6) (hm : A 195 a ≤ 999) (hw : ∀ r, r < A 190 0 → 1 ≤ A 191 r ∧ A 191 r ≤ 12) (ho : ∀ r, r < A 190 0 → oRow A h r (F r)) (hp : ∀ r, r < A 190 0 → A 192 r ≤ 999) : ∀ m r, r + m = A 190 0 → mW (mCall X D) X cap 133 P 39 [.ref 185, .int (tN h), .int (tN a), .int (tN p), .int (tN (fut (A 192) F (A 195 a) r)), .int (tN r)] [] (mN A, RF, G, mSh) = mW (mCall X D) X cap 133 P 88 [.ref 185, .int (tN h), .int (tN a), .int (tN p), .int (tN (fut (A 192) F (A 195 a) (A 190 0))), .int (tN (A 190 0))] [] (mN A, RF, G, mSh) := by
  intro m
  induction m with
  | zero =>
    intro r e
    obtain rfl : r = A 190 0 := by omega
    rw [kh_133_39]
    simp (disch := first | omega | assumption | exact mOk_int | exact mOk_null | exact mOk_ref | (simp (disch := omega) only [aF_ef, aF_nf, aU_ne, aU_eq, aU_ne2]; first | done | omega | assumption)) only [k_133_0, k_133_1, k_133_2, al_0, il_1, il_2, gq_0, gq_1, gq_2, gq_3, gq_4, q_iald, q_callV3, is_3, il_3, r_push, ri_iceq, q_callV4, r_zret, is_4, is_5, il_5, ri_icge, il_4, ri_icgt, q_callV2, r_goto, r_iadd, ii_5, q_bald, ri_ifeq, kd_0, kd_1, kd_2, kd_3, kd_4, kd_5, ln_0, ln_1, ln_2, ln_3, ln_4, ln_5, Option.some.injEq, Value.int.injEq, Value.ref.injEq, Value.long.injEq, Prod.mk.injEq, exists_eq_left', exists_eq_left, true_and, and_true, mLk, Option.any_some, mC1, Value.category, Option.toList_some, Option.toList_none, List.nil_append, List.cons_append, List.length_cons, List.length_nil, ne_eq, Nat.reduceEqDiff, not_false_eq_true, reduceCtorEq, exists_and_left, exists_and_right, Nat.reduceLeDiff, Nat.reduceAdd, and_self, exists_eq, exists_eq_right, exists_const, eq_self, exists_eq', not_true_eq_false, false_implies, true_implies, implies_true, forall_const, or_true, true_or, false_or, or_false, and_false, false_and, if_true, if_false, ite_true, ite_false, mB, mOk_int, mOk_ref, mOk_null, mOk_long, Nat.reduceLT, Nat.reduceSub, Nat.reduceMul, Nat.reduceDiv, Nat.reduceMod, Classical.not_not, ↓reduceIte, Nat.zero_add, Nat.add_zero, Nat.add_sub_cancel, Bool.false_eq_true, tN_l, tN_m1, tN_n1, tN_n8, tN_dec, tN_dec8, aF_ef, aF_nf, aF_U, tN_lt, tN_le, tN_inj, tN_add, tN_mul, tN_sub, tN_and, tN_or, tN_xor, tN_and31, tN_clamp, tN_in, tN_div, nm_rem, tN_shl, tN_shr, tN_b2, nd_lt, nd_nlt, nd_le, nd_nle, nd_eq, nd_ne, mN_at, mN_U, aU_ne, aU_eq, aU_ne2]
  | succ m ih =>
    intro r e
    obtain ⟨w1, w2⟩ := hw r (by omega)
    have p1 := hp r (by omega)
    have e139 := fun P' => m_139 (X := X) (D := D) (P := P') (G := G) (A := A) (h := h) (r := r) (by omega) hh (by omega) w1 w2 (ho r (by omega))
    rw [← ih (r + 1) (by omega), kh_133_39]
    by_cases c : A 192 r ≤ A 195 a
    · simp only [fut, c, if_true]
      simp (disch := first | omega | assumption | exact mOk_int | exact mOk_null | exact mOk_ref | (simp (disch := omega) only [aF_ef, aF_nf, aU_ne, aU_eq, aU_ne2]; first | done | omega | assumption)) only [k_133_0, k_133_1, k_133_2, al_0, il_1, il_2, gq_0, gq_1, gq_2, gq_3, gq_4, q_iald, q_callV3, is_3, il_3, r_push, ri_iceq, q_callV4, r_zret, is_4, is_5, il_5, ri_icge, il_4, ri_icgt, q_callV2, r_goto, r_iadd, ii_5, q_bald, ri_ifeq, kd_0, kd_1, kd_2, kd_3, kd_4, kd_5, ln_0, ln_1, ln_2, ln_3, ln_4, ln_5, Option.some.injEq, Value.int.injEq, Value.ref.injEq, Value.long.injEq, Prod.mk.injEq, exists_eq_left', exists_eq_left, true_and, and_true, mLk, Option.any_some, mC1, Value.category, Option.toList_some, Option.toList_none, List.nil_append, List.cons_append, List.length_cons, List.length_nil, ne_eq, Nat.reduceEqDiff, not_false_eq_true, reduceCtorEq, exists_and_left, exists_and_right, Nat.reduceLeDiff, Nat.reduceAdd, and_self, exists_eq, exists_eq_right, exists_const, eq_self, exists_eq', not_true_eq_false, false_implies, true_implies, implies_true, forall_const, or_true, true_or, false_or, or_false, and_false, false_and, if_true, if_false, ite_true, ite_false, mB, mOk_int, mOk_ref, mOk_null, mOk_long, Nat.reduceLT, Nat.reduceSub, Nat.reduceMul, Nat.reduceDiv, Nat.reduceMod, Classical.not_not, ↓reduceIte, Nat.zero_add, Nat.add_zero, Nat.add_sub_cancel, Bool.false_eq_true, tN_l, tN_m1, tN_n1, tN_n8, tN_dec, tN_dec8, aF_ef, aF_nf, aF_U, tN_lt, tN_le, tN_inj, tN_add, tN_mul, tN_sub, tN_and, tN_or, tN_xor, tN_and31, tN_clamp, tN_in, tN_div, nm_rem, tN_shl, tN_shr, tN_b2, nd_lt, nd_nlt, nd_le, nd_nle, nd_eq, nd_ne, mN_at, mN_U, aU_ne, aU_eq, aU_ne2, e139]
    · simp only [fut, c, if_false]
      simp (disch := first | omega | assumption | exact mOk_int | exact mOk_null | exact mOk_ref | (simp (disch := omega) only [aF_ef, aF_nf, aU_ne, aU_eq, aU_ne2]; first | done | omega | assumption)) only [k_133_0, k_133_1, k_133_2, al_0, il_1, il_2, gq_0, gq_1, gq_2, gq_3, gq_4, q_iald, q_callV3, is_3, il_3, r_push, ri_iceq, q_callV4, r_zret, is_4, is_5, il_5, ri_icge, il_4, ri_icgt, q_callV2, r_goto, r_iadd, ii_5, q_bald, ri_ifeq, kd_0, kd_1, kd_2, kd_3, kd_4, kd_5, ln_0, ln_1, ln_2, ln_3, ln_4, ln_5, Option.some.injEq, Value.int.injEq, Value.ref.injEq, Value.long.injEq, Prod.mk.injEq, exists_eq_left', exists_eq_left, true_and, and_true, mLk, Option.any_some, mC1, Value.category, Option.toList_some, Option.toList_none, List.nil_append, List.cons_append, List.length_cons, List.length_nil, ne_eq, Nat.reduceEqDiff, not_false_eq_true, reduceCtorEq, exists_and_left, exists_and_right, Nat.reduceLeDiff, Nat.reduceAdd, and_self, exists_eq, exists_eq_right, exists_const, eq_self, exists_eq', not_true_eq_false, false_implies, true_implies, implies_true, forall_const, or_true, true_or, false_or, or_false, and_false, false_and, if_true, if_false, ite_true, ite_false, mB, mOk_int, mOk_ref, mOk_null, mOk_long, Nat.reduceLT, Nat.reduceSub, Nat.reduceMul, Nat.reduceDiv, Nat.reduceMod, Classical.not_not, ↓reduceIte, Nat.zero_add, Nat.add_zero, Nat.add_sub_cancel, Bool.false_eq_true, tN_l, tN_m1, tN_n1, tN_n8, tN_dec, tN_dec8, aF_ef, aF_nf, aF_U, tN_lt, tN_le, tN_inj, tN_add, tN_mul, tN_sub, tN_and, tN_or, tN_xor, tN_and31, tN_clamp, tN_in, tN_div, nm_rem, tN_shl, tN_shr, tN_b2, nd_lt, nd_nlt, nd_le, nd_nle, nd_eq, nd_ne, mN_at, mN_U, aU_ne, aU_eq, aU_ne2]
theorem oRow_cg {A B : Nat → Nat → Nat} {h r f : Nat} (h1 : B 191 = A 191) (h2 : B 211 = A 211) (ho : oRow A h r f) : oRow B h r f := by
  unfold oRow at *
  rw [h1, h2]
  exact ho
/-- what a set of places leaves free -/
theorem oRow_set {A B : Nat → Nat → Nat} {h a r f f2 n : Nat} {T : Nat → Nat} (ha : a < 12) (hr : r < 6) (hw : A 191 r ≤ 12) (h1 : B 191 = A 191) (h2 : B 211 = oSet (A 211) (posN h T) a n) (hT : ∀ k, k < n → T k % 100 < 12) (ho : oRow A h r f) (hf2 : f2 < 2 ^ A 191 r) (hb : ∀ j, j < A 191 r → (f2.testBit j = true ↔ f.testBit j = true ∧ ∀ k, k < n → ¬ (r = T k / 100 ∧ j = T k % 100))) : oRow B h r f2 := by
  unfold oRow
  rw [h1, h2]
  refine ⟨hf2, fun j hj => ?_⟩
  obtain ⟨o1, o2⟩ := ho.2 j hj
  by_cases c : ∃ k, k < n ∧ r = T k / 100 ∧ j = T k % 100
  · obtain ⟨k, k1, k2, k3⟩ := c
    have e : 72 * h + 12 * r + j = posN h T k := by unfold posN; omega
    rw [e, oSet_hit n k k1]
    refine ⟨by omega, ⟨fun z => absurd z (by omega), fun z => absurd ⟨k2, k3⟩ (((hb j hj).mp z).2 k k1)⟩⟩
  · have e : ∀ k, k < n → 72 * h + 12 * r + j ≠ posN h T k := by
      intro k hk z
      have := hT k hk
      unfold posN at z
      exact c ⟨k, hk, by omega, by omega⟩
    rw [oSet_miss n e]
    refine ⟨o1, o2.trans ⟨fun z => (hb j hj).mpr ⟨z, fun k hk y => c ⟨k, hk, y.1, y.2⟩⟩, fun z => ((hb j hj).mp z).1⟩⟩

set_option maxRecDepth 20000
set_option maxHeartbeats 4000000
/-! CLASS: orders of turns -/
def mvD (O : Nat → Nat) (fr to : Nat) : Nat → Nat := fun i => if i = to then O fr else if to < i ∧ i ≤ fr then O (i - 1) else O i
theorem l_21 {X : mX} {D : Nat} {cap : Nat × Nat} {P : mPost} {G : mG} {A : Nat → Nat → Nat} {fr to mv : Nat} (hf : fr < 12) : ∀ m p, to + m = p → p ≤ fr → mW (mCall X D) X cap 21 P 10 [.ref 159, .int (tN fr), .int (tN to), .int (tN mv), .int (tN p)] [] (mN (aF A 160 (fun i => if p < i ∧ i ≤ fr then A 160 (i - 1) else A 160 i)), RF, G, mSh) = P none (mN (aF A 160 (fun i => if i = to then mv else if to < i ∧ i ≤ fr then A 160 (i - 1) else A 160 i)), RF, G, mSh) := by
  intro m
  induction m with
  | zero =>
    intro p h hp
    obtain rfl : p = to := by omega
    rw [kh_21_10]
    simp (disch := first | omega | assumption | exact mOk_int | exact mOk_null | exact mOk_ref | (simp (disch := omega) only [aF_ef, aF_nf, aU_ne, aU_eq, aU_ne2]; first | done | omega | assumption)) only [k_21_0, al_0, gq_0, gq_1, gq_2, gq_3, gq_4, il_1, q_iald, is_3, is_4, il_4, il_2, ri_icle, r_push, r_isub, q_iast, ii_4, r_goto, il_3, r_vret, kd_0, kd_1, kd_2, kd_3, kd_4, kd_5, ln_0, ln_1, ln_2, ln_3, ln_4, ln_5, Option.some.injEq, Value.int.injEq, Value.ref.injEq, Value.long.injEq, Prod.mk.injEq, exists_eq_left', exists_eq_left, true_and, and_true, mLk, Option.any_some, mC1, Value.category, Option.toList_some, Option.toList_none, List.nil_append, List.cons_append, List.length_cons, List.length_nil, ne_eq, Nat.reduceEqDiff, not_false_eq_true, reduceCtorEq, exists_and_left, exists_and_right, Nat.reduceLeDiff, Nat.reduceAdd, and_self, exists_eq, exists_eq_right, exists_const, eq_self, exists_eq', not_true_eq_false, false_implies, true_implies, implies_true, forall_const, or_true, true_or, false_or, or_false, and_false, false_and, if_true, if_false, ite_true, ite_false, mB, mOk_int, mOk_ref, mOk_null, mOk_long, Nat.reduceLT, Nat.reduceSub, Nat.reduceMul, Nat.reduceDiv, Nat.reduceMod, Classical.not_not, ↓reduceIte, Nat.zero_add, Nat.add_zero, Nat.add_sub_cancel, tN_l, tN_m1, tN_n1, tN_n8, tN_dec, tN_dec8, aF_ef, aF_nf, aF_U, tN_lt, tN_le, tN_inj, tN_add, tN_mul, tN_sub, tN_and, tN_or, tN_xor, tN_and31, tN_clamp, tN_in, tN_div, nm_rem, tN_shl, tN_shr, tN_b2, nd_lt, nd_nlt, nd_le, nd_nle, nd_eq, nd_ne, mN_at, mN_U, aU_ne, aU_eq, aU_ne2]
  | succ m ih =>
    intro p h hp
    rw [← ih (p - 1) (by omega) (by omega), kh_21_10]
    simp (disch := first | omega | assumption | exact mOk_int | exact mOk_null | exact mOk_ref | (simp (disch := omega) only [aF_ef, aF_nf, aU_ne, aU_eq, aU_ne2]; first | done | omega | assumption)) only [k_21_0, al_0, gq_0, gq_1, gq_2, gq_3, gq_4, il_1, q_iald, is_3, is_4, il_4, il_2, ri_icle, r_push, r_isub, q_iast, ii_4, r_goto, il_3, r_vret, kd_0, kd_1, kd_2, kd_3, kd_4, kd_5, ln_0, ln_1, ln_2, ln_3, ln_4, ln_5, Option.some.injEq, Value.int.injEq, Value.ref.injEq, Value.long.injEq, Prod.mk.injEq, exists_eq_left', exists_eq_left, true_and, and_true, mLk, Option.any_some, mC1, Value.category, Option.toList_some, Option.toList_none, List.nil_append, List.cons_append, List.length_cons, List.length_nil, ne_eq, Nat.reduceEqDiff, not_false_eq_true, reduceCtorEq, exists_and_left, exists_and_right, Nat.reduceLeDiff, Nat.reduceAdd, and_self, exists_eq, exists_eq_right, exists_const, eq_self, exists_eq', not_true_eq_false, false_implies, true_implies, implies_true, forall_const, or_true, true_or, false_or, or_false, and_false, false_and, if_true, if_false, ite_true, ite_false, mB, mOk_int, mOk_ref, mOk_null, mOk_long, Nat.reduceLT, Nat.reduceSub, Nat.reduceMul, Nat.reduceDiv, Nat.reduceMod, Classical.not_not, ↓reduceIte, Nat.zero_add, Nat.add_zero, Nat.add_sub_cancel, tN_l, tN_m1, tN_n1, tN_n8, tN_dec, tN_dec8, aF_ef, aF_nf, aF_U, tN_lt, tN_le, tN_inj, tN_add, tN_mul, tN_sub, tN_and, tN_or, tN_xor, tN_and31, tN_clamp, tN_in, tN_div, nm_rem, tN_shl, tN_shr, tN_b2, nd_lt, nd_nlt, nd_le, nd_nle, nd_eq, nd_ne, mN_at, mN_U, aU_ne, aU_eq, aU_ne2]
    refine congrArg (fun z => mW (mCall X D) X cap 21 P 10 _ [] (mN (aF A 160 z), RF, G, mSh)) (funext fun j => ?_)
    by_cases h1 : j = p
    · rw [if_pos h1, if_pos (by omega), h1]
    · rw [if_neg h1]
      by_cases h2 : p < j ∧ j ≤ fr
      · rw [if_pos h2, if_pos (by omega)]
      · rw [if_neg h2, if_neg (by omega)]
theorem c_21 {X : mX} {D : Nat} {P : mPost} {A : Nat → Nat → Nat} {G : mG} {fr to : Nat} (hD : 1 ≤ D) (hf : fr < 12) (ht : to ≤ fr) : mCall X D 21 [.ref 159, .int (tN fr), .int (tN to)] (mN A, RF, G, mSh) P = P none (mN (aF A 160 (mvD (A 160) fr to)), RF, G, mSh) := by
  rw [e_21 hD]
  simp (disch := first | omega | assumption | exact mOk_int | exact mOk_null | exact mOk_ref | (simp (disch := omega) only [aF_ef, aF_nf, aU_ne, aU_eq, aU_ne2]; first | done | omega | assumption)) only [k_21_0, al_0, gq_0, gq_1, gq_2, gq_3, gq_4, il_1, q_iald, is_3, is_4, il_4, il_2, ri_icle, r_push, r_isub, q_iast, ii_4, r_goto, il_3, r_vret, kd_0, kd_1, kd_2, kd_3, kd_4, kd_5, ln_0, ln_1, ln_2, ln_3, ln_4, ln_5, Option.some.injEq, Value.int.injEq, Value.ref.injEq, Value.long.injEq, Prod.mk.injEq, exists_eq_left', exists_eq_left, true_and, and_true, mLk, Option.any_some, mC1, Value.category, Option.toList_some, Option.toList_none, List.nil_append, List.cons_append, List.length_cons, List.length_nil, ne_eq, Nat.reduceEqDiff, not_false_eq_true, reduceCtorEq, exists_and_left, exists_and_right, Nat.reduceLeDiff, Nat.reduceAdd, and_self, exists_eq, exists_eq_right, exists_const, eq_self, exists_eq', not_true_eq_false, false_implies, true_implies, implies_true, forall_const, or_true, true_or, false_or, or_false, and_false, false_and, if_true, if_false, ite_true, ite_false, mB, mOk_int, mOk_ref, mOk_null, mOk_long, Nat.reduceLT, Nat.reduceSub, Nat.reduceMul, Nat.reduceDiv, Nat.reduceMod, Classical.not_not, ↓reduceIte, Nat.zero_add, Nat.add_zero, Nat.add_sub_cancel, tN_l, tN_m1, tN_n1, tN_n8, tN_dec, tN_dec8, aF_ef, aF_nf, aF_U, tN_lt, tN_le, tN_inj, tN_add, tN_mul, tN_sub, tN_and, tN_or, tN_xor, tN_and31, tN_clamp, tN_in, tN_div, nm_rem, tN_shl, tN_shr, tN_b2, nd_lt, nd_nlt, nd_le, nd_nle, nd_eq, nd_ne, mN_at, mN_U, aU_ne, aU_eq, aU_ne2]
  have := l_21 (X := X) (D := D - 1) (cap := (mSh.length + (mAl 21).fst, mSum mSh + (mAl 21).snd)) (P := P) (G := G) (A := A) (fr := fr) (to := to) (mv := A 160 fr) hf (fr - to) fr (by omega) (by omega)
  rw [aF_id (c := 160) (g := fun i => if fr < i ∧ i ≤ fr then A 160 (i - 1) else A 160 i) (fun j => if_neg (by omega))] at this
  exact this
def drS (O : Nat → Nat) (n t : Nat) : Nat → (Nat → Nat) × Nat
  | 0 => (O, t)
  | k + 1 => (mvD (drS O n t k).1 (k + (drS O n t k).2 / fac (n - 1 - k)) k, (drS O n t k).2 % fac (n - 1 - k))
theorem fac_pos : ∀ n, 0 < fac n
  | 0 => by decide
  | n + 1 => Nat.mul_pos (by omega) (fac_pos n)
theorem fac_le {n : Nat} (h : n ≤ 12) : fac n ≤ 479001600 := by
  have : ∀ n, n < 13 → fac n ≤ 479001600 := by decide
  exact this n (by omega)
theorem drS_lt {O : Nat → Nat} {n t : Nat} (h : t < fac n) : ∀ k, k ≤ n → (drS O n t k).2 < fac (n - k)
  | 0, _ => h
  | k + 1, hk => by
    show (drS O n t k).2 % fac (n - 1 - k) < fac (n - (k + 1))
    rw [show n - (k + 1) = n - 1 - k by omega]
    exact Nat.mod_lt _ (fac_pos _)
theorem drS_q {O : Nat → Nat} {n t k : Nat} (h : t < fac n) (hk : k < n) : (drS O n t k).2 / fac (n - 1 - k) < n - k := by
  have h1 := drS_lt (O := O) h k (by omega)
  rw [Nat.div_lt_iff_lt_mul (fac_pos _)]
  have e : n - k = (n - 1 - k) + 1 := by omega
  rw [e] at h1 ⊢
  exact h1
theorem l_20 {X : mX} {D : Nat} {cap : Nat × Nat} {P : mPost} {G : mG} {A : Nat → Nat → Nat} {O : Nat → Nat} {n t : Nat} (hD : 1 ≤ D) (hn : n ≤ 12) (ht : t < fac n) : ∀ m k u, k + m = n → mOk u = true → mW (mCall X D) X cap 20 P 5 [.ref 159, .int (tN n), .int (tN t), .int (tN (drS O n t k).2), .int (tN k), u] [] (mN (aF A 160 (drS O n t k).1), RF, G, mSh) = P none (mN (aF A 160 (drS O n t n).1), RF, G, mSh) := by
  intro m
  induction m with
  | zero =>
    intro k u h gu
    obtain rfl : k = n := by omega
    rw [kh_20_5]
    simp (disch := first | omega | assumption | exact mOk_int | exact mOk_null | exact mOk_ref | (simp (disch := omega) only [aF_ef, aF_nf, aU_ne, aU_eq, aU_ne2]; first | done | omega | assumption)) only [k_20_0, il_2, is_3, r_push, is_4, il_4, il_1, ri_icge, r_isub, q_iald, q_aldF, is_5, al_0, il_3, il_5, r_idiv, r_iadd, q_callV2, r_irem, ii_4, r_goto, r_vret, kd_0, kd_1, kd_2, kd_3, kd_4, kd_5, ln_0, ln_1, ln_2, ln_3, ln_4, ln_5, Option.some.injEq, Value.int.injEq, Value.ref.injEq, Value.long.injEq, Prod.mk.injEq, exists_eq_left', exists_eq_left, true_and, and_true, mLk, Option.any_some, mC1, Value.category, Option.toList_some, Option.toList_none, List.nil_append, List.cons_append, List.length_cons, List.length_nil, ne_eq, Nat.reduceEqDiff, not_false_eq_true, reduceCtorEq, exists_and_left, exists_and_right, Nat.reduceLeDiff, Nat.reduceAdd, and_self, exists_eq, exists_eq_right, exists_const, eq_self, exists_eq', not_true_eq_false, false_implies, true_implies, implies_true, forall_const, or_true, true_or, false_or, or_false, and_false, false_and, if_true, if_false, ite_true, ite_false, mB, mOk_int, mOk_ref, mOk_null, mOk_long, Nat.reduceLT, Nat.reduceSub, Nat.reduceMul, Nat.reduceDiv, Nat.reduceMod, Classical.not_not, ↓reduceIte, Nat.zero_add, Nat.add_zero, Nat.add_sub_cancel, tN_l, tN_m1, tN_n1, tN_n8, tN_dec, tN_dec8, aF_ef, aF_nf, aF_U, tN_lt, tN_le, tN_inj, tN_add, tN_mul, tN_sub, tN_and, tN_or, tN_xor, tN_and31, tN_clamp, tN_in, tN_div, nm_rem, tN_shl, tN_shr, tN_b2, nd_lt, nd_nlt, nd_le, nd_nle, nd_eq, nd_ne, mN_at, mN_U, aU_ne, aU_eq, aU_ne2]
  | succ m ih =>
    intro k u h gu
    have h1 := drS_lt (O := O) ht k (by omega)
    have h2 := drS_q (O := O) ht (show k < n by omega)
    have h3 := fac_le (show n - k ≤ 12 by omega)
    have h4 := fac_le (show n - 1 - k ≤ 12 by omega)
    have h5 := fac_pos (n - 1 - k)
    have ih' := ih (k + 1) (.int (tN (fac (n - 1 - k)))) (by omega) mOk_int
    have e21 := fun P' => c_21 (X := X) (D := D) (P := P') (G := G) (A := aF A 160 (drS O n t k).1) (fr := k + (drS O n t k).2 / fac (n - 1 - k)) (to := k) hD (Nat.lt_of_lt_of_le (Nat.add_lt_add_left h2 k) (by omega)) (Nat.le_add_right _ _)
    rw [aF_ef, aF_aF] at e21
    rw [show drS O n t (k + 1) = (mvD (drS O n t k).1 (k + (drS O n t k).2 / fac (n - 1 - k)) k, (drS O n t k).2 % fac (n - 1 - k)) from rfl] at ih'
    rw [kh_20_5]
    simp (disch := first | omega | assumption | exact mOk_int | exact mOk_null | exact mOk_ref | (simp (disch := omega) only [aF_ef, aF_nf, aU_ne, aU_eq, aU_ne2]; first | done | omega | assumption)) only [k_20_0, il_2, is_3, r_push, is_4, il_4, il_1, ri_icge, r_isub, q_iald, q_aldF, is_5, al_0, il_3, il_5, r_idiv, r_iadd, q_callV2, r_irem, ii_4, r_goto, r_vret, kd_0, kd_1, kd_2, kd_3, kd_4, kd_5, ln_0, ln_1, ln_2, ln_3, ln_4, ln_5, Option.some.injEq, Value.int.injEq, Value.ref.injEq, Value.long.injEq, Prod.mk.injEq, exists_eq_left', exists_eq_left, true_and, and_true, mLk, Option.any_some, mC1, Value.category, Option.toList_some, Option.toList_none, List.nil_append, List.cons_append, List.length_cons, List.length_nil, ne_eq, Nat.reduceEqDiff, not_false_eq_true, reduceCtorEq, exists_and_left, exists_and_right, Nat.reduceLeDiff, Nat.reduceAdd, and_self, exists_eq, exists_eq_right, exists_const, eq_self, exists_eq', not_true_eq_false, false_implies, true_implies, implies_true, forall_const, or_true, true_or, false_or, or_false, and_false, false_and, if_true, if_false, ite_true, ite_false, mB, mOk_int, mOk_ref, mOk_null, mOk_long, Nat.reduceLT, Nat.reduceSub, Nat.reduceMul, Nat.reduceDiv, Nat.reduceMod, Classical.not_not, ↓reduceIte, Nat.zero_add, Nat.add_zero, Nat.add_sub_cancel, tN_l, tN_m1, tN_n1, tN_n8, tN_dec, tN_dec8, aF_ef, aF_nf, aF_U, tN_lt, tN_le, tN_inj, tN_add, tN_mul, tN_sub, tN_and, tN_or, tN_xor, tN_and31, tN_clamp, tN_in, tN_div, nm_rem, tN_shl, tN_shr, tN_b2, nd_lt, nd_nlt, nd_le, nd_nle, nd_eq, nd_ne, mN_at, mN_U, aU_ne, aU_eq, aU_ne2, fac_at, e21, nm_rem1]
    exact ih'
theorem c_20 {X : mX} {D : Nat} {P : mPost} {A : Nat → Nat → Nat} {G : mG} {n t : Nat} (hD : 2 ≤ D) (hn : n ≤ 12) (ht : t < fac n) : mCall X D 20 [.ref 159, .int (tN n), .int (tN t)] (mN A, RF, G, mSh) P = P none (mN (aF A 160 (drS (A 160) n t n).1), RF, G, mSh) := by
  rw [e_20 (by omega)]
  simp (disch := first | omega | assumption | exact mOk_int | exact mOk_null | exact mOk_ref | (simp (disch := omega) only [aF_ef, aF_nf, aU_ne, aU_eq, aU_ne2]; first | done | omega | assumption)) only [k_20_0, il_2, is_3, r_push, is_4, il_4, il_1, ri_icge, r_isub, q_iald, q_aldF, is_5, al_0, il_3, il_5, r_idiv, r_iadd, q_callV2, r_irem, ii_4, r_goto, r_vret, kd_0, kd_1, kd_2, kd_3, kd_4, kd_5, ln_0, ln_1, ln_2, ln_3, ln_4, ln_5, Option.some.injEq, Value.int.injEq, Value.ref.injEq, Value.long.injEq, Prod.mk.injEq, exists_eq_left', exists_eq_left, true_and, and_true, mLk, Option.any_some, mC1, Value.category, Option.toList_some, Option.toList_none, List.nil_append, List.cons_append, List.length_cons, List.length_nil, ne_eq, Nat.reduceEqDiff, not_false_eq_true, reduceCtorEq, exists_and_left, exists_and_right, Nat.reduceLeDiff, Nat.reduceAdd, and_self, exists_eq, exists_eq_right, exists_const, eq_self, exists_eq', not_true_eq_false, false_implies, true_implies, implies_true, forall_const, or_true, true_or, false_or, or_false, and_false, false_and, if_true, if_false, ite_true, ite_false, mB, mOk_int, mOk_ref, mOk_null, mOk_long, Nat.reduceLT, Nat.reduceSub, Nat.reduceMul, Nat.reduceDiv, Nat.reduceMod, Classical.not_not, ↓reduceIte, Nat.zero_add, Nat.add_zero, Nat.add_sub_cancel, tN_l, tN_m1, tN_n1, tN_n8, tN_dec, tN_dec8, aF_ef, aF_nf, aF_U, tN_lt, tN_le, tN_inj, tN_add, tN_mul, tN_sub, tN_and, tN_or, tN_xor, tN_and31, tN_clamp, tN_in, tN_div, nm_rem, tN_shl, tN_shr, tN_b2, nd_lt, nd_nlt, nd_le, nd_nle, nd_eq, nd_ne, mN_at, mN_U, aU_ne, aU_eq, aU_ne2]
  have := l_20 (X := X) (D := D - 1) (cap := (mSh.length + (mAl 20).fst, mSum mSh + (mAl 20).snd)) (P := P) (G := G) (A := A) (O := A 160) (by omega) hn ht n 0 .null (by omega) mOk_null
  rw [show drS (A 160) n t 0 = (A 160, t) from rfl, aF_id (c := 160) (fun j => rfl)] at this
  exact this
def siP (mo O : Nat → Nat) (a : Nat) : Nat → Nat
  | 0 => 0
  | p + 1 => if mo (O p) < mo a then siP mo O a p else p + 1
def siO (mo O : Nat → Nat) : Nat → Nat → Nat
  | 0 => O
  | k + 1 => mvD (siO mo O k) k (siP mo (siO mo O k) k k)
theorem siP_le {mo O : Nat → Nat} {a : Nat} : ∀ p, siP mo O a p ≤ p
  | 0 => Nat.le_refl _
  | p + 1 => by
    unfold siP
    split
    · exact Nat.le_succ_of_le (siP_le p)
    · exact Nat.le_refl _
theorem siO_lt {mo O : Nat → Nat} {n : Nat} (h : ∀ i, i < n → O i < n) : ∀ k, k ≤ n → ∀ i, i < n → siO mo O k i < n := by
  intro k
  induction k with
  | zero => intro _; exact h
  | succ k ih =>
    intro hk i hi
    have ih := ih (by omega)
    have hp := siP_le (mo := mo) (O := siO mo O k) (a := k) k
    show mvD (siO mo O k) k (siP mo (siO mo O k) k k) i < n
    unfold mvD
    split
    · exact ih _ (by omega)
    · split
      · exact ih _ (by omega)
      · exact ih _ hi
theorem mvD_00 {O : Nat → Nat} : mvD O 0 0 = O := by
  funext i
  unfold mvD
  by_cases h : i = 0
  · rw [if_pos h, h]
  · rw [if_neg h, if_neg (by omega)]
theorem l_22b {X : mX} {D : Nat} {cap : Nat × Nat} {P : mPost} {G : mG} {A : Nat → Nat → Nat} {O : Nat → Nat} {a n : Nat} (hD : 1 ≤ D) (hn : n ≤ 12) (ha : a < n) (hO : ∀ i, i < n → O i < n) (hm : ∀ i, i < n → A 7 i ≤ 999) : ∀ p, p ≤ a → mW (mCall X D) X cap 22 P 12 [.ref 159, .ref 5, .int (tN a), .int (tN p)] [] (mN (aF A 160 O), RF, G, mSh) = mW (mCall X D) X cap 22 P 2 [.ref 159, .ref 5, .int (tN (a + 1)), .int (tN (siP (A 7) O a p))] [] (mN (aF A 160 (mvD O a (siP (A 7) O a p))), RF, G, mSh) := by
  intro p
  have h2 := hm a ha
  induction p with
  | zero =>
    intro h
    have e21 := fun P' => c_21 (X := X) (D := D) (P := P') (G := G) (A := aF A 160 O) (fr := a) (to := 0) hD (by omega) (by omega)
    rw [aF_ef, aF_aF] at e21
    rw [kh_22_12]
    simp (disch := first | omega | assumption | exact mOk_int | exact mOk_null | exact mOk_ref | (simp (disch := omega) only [aF_ef, aF_nf, aU_ne, aU_eq, aU_ne2]; first | done | omega | assumption)) only [k_22_0, r_push, is_2, il_2, al_1, q_getI, ri_icge, is_3, il_3, ri_ifle, gq_0, gq_1, gq_2, gq_3, gq_4, al_0, r_isub, q_iald, ii_3, r_goto, q_callV2, ii_2, r_vret, kd_0, kd_1, kd_2, kd_3, kd_4, kd_5, ln_0, ln_1, ln_2, ln_3, ln_4, ln_5, Option.some.injEq, Value.int.injEq, Value.ref.injEq, Value.long.injEq, Prod.mk.injEq, exists_eq_left', exists_eq_left, true_and, and_true, mLk, Option.any_some, mC1, Value.category, Option.toList_some, Option.toList_none, List.nil_append, List.cons_append, List.length_cons, List.length_nil, ne_eq, Nat.reduceEqDiff, not_false_eq_true, reduceCtorEq, exists_and_left, exists_and_right, Nat.reduceLeDiff, Nat.reduceAdd, and_self, exists_eq, exists_eq_right, exists_const, eq_self, exists_eq', not_true_eq_false, false_implies, true_implies, implies_true, forall_const, or_true, true_or, false_or, or_false, and_false, false_and, if_true, if_false, ite_true, ite_false, mB, mOk_int, mOk_ref, mOk_null, mOk_long, Nat.reduceLT, Nat.reduceSub, Nat.reduceMul, Nat.reduceDiv, Nat.reduceMod, Classical.not_not, ↓reduceIte, Nat.zero_add, Nat.add_zero, Nat.add_sub_cancel, tN_l, tN_m1, tN_n1, tN_n8, tN_dec, tN_dec8, aF_ef, aF_nf, aF_U, tN_lt, tN_le, tN_inj, tN_add, tN_mul, tN_sub, tN_and, tN_or, tN_xor, tN_and31, tN_clamp, tN_in, tN_div, nm_rem, tN_shl, tN_shr, tN_b2, nd_lt, nd_nlt, nd_le, nd_nle, nd_eq, nd_ne, mN_at, mN_U, aU_ne, aU_eq, aU_ne2, e21, siP]
  | succ p ih =>
    intro h
    have h1 := hm (O p) (hO p (by omega))
    have h3 := hO p (by omega)
    have ih' := ih (by omega)
    by_cases c : A 7 (O p) < A 7 a
    · unfold siP
      rw [if_pos c, kh_22_12]
      simp (disch := first | omega | assumption | exact mOk_int | exact mOk_null | exact mOk_ref | (simp (disch := omega) only [aF_ef, aF_nf, aU_ne, aU_eq, aU_ne2]; first | done | omega | assumption)) only [k_22_0, r_push, is_2, il_2, al_1, q_getI, ri_icge, is_3, il_3, ri_ifle, gq_0, gq_1, gq_2, gq_3, gq_4, al_0, r_isub, q_iald, ii_3, r_goto, q_callV2, ii_2, r_vret, kd_0, kd_1, kd_2, kd_3, kd_4, kd_5, ln_0, ln_1, ln_2, ln_3, ln_4, ln_5, Option.some.injEq, Value.int.injEq, Value.ref.injEq, Value.long.injEq, Prod.mk.injEq, exists_eq_left', exists_eq_left, true_and, and_true, mLk, Option.any_some, mC1, Value.category, Option.toList_some, Option.toList_none, List.nil_append, List.cons_append, List.length_cons, List.length_nil, ne_eq, Nat.reduceEqDiff, not_false_eq_true, reduceCtorEq, exists_and_left, exists_and_right, Nat.reduceLeDiff, Nat.reduceAdd, and_self, exists_eq, exists_eq_right, exists_const, eq_self, exists_eq', not_true_eq_false, false_implies, true_implies, implies_true, forall_const, or_true, true_or, false_or, or_false, and_false, false_and, if_true, if_false, ite_true, ite_false, mB, mOk_int, mOk_ref, mOk_null, mOk_long, Nat.reduceLT, Nat.reduceSub, Nat.reduceMul, Nat.reduceDiv, Nat.reduceMod, Classical.not_not, ↓reduceIte, Nat.zero_add, Nat.add_zero, Nat.add_sub_cancel, tN_l, tN_m1, tN_n1, tN_n8, tN_dec, tN_dec8, aF_ef, aF_nf, aF_U, tN_lt, tN_le, tN_inj, tN_add, tN_mul, tN_sub, tN_and, tN_or, tN_xor, tN_and31, tN_clamp, tN_in, tN_div, nm_rem, tN_shl, tN_shr, tN_b2, nd_lt, nd_nlt, nd_le, nd_nle, nd_eq, nd_ne, mN_at, mN_U, aU_ne, aU_eq, aU_ne2]
      exact ih'
    · unfold siP
      rw [if_neg c, kh_22_12]
      have e21 := fun P' => c_21 (X := X) (D := D) (P := P') (G := G) (A := aF A 160 O) (fr := a) (to := p + 1) hD (by omega) (by omega)
      rw [aF_ef, aF_aF] at e21
      simp (disch := first | omega | assumption | exact mOk_int | exact mOk_null | exact mOk_ref | (simp (disch := omega) only [aF_ef, aF_nf, aU_ne, aU_eq, aU_ne2]; first | done | omega | assumption)) only [k_22_0, r_push, is_2, il_2, al_1, q_getI, ri_icge, is_3, il_3, ri_ifle, gq_0, gq_1, gq_2, gq_3, gq_4, al_0, r_isub, q_iald, ii_3, r_goto, q_callV2, ii_2, r_vret, kd_0, kd_1, kd_2, kd_3, kd_4, kd_5, ln_0, ln_1, ln_2, ln_3, ln_4, ln_5, Option.some.injEq, Value.int.injEq, Value.ref.injEq, Value.long.injEq, Prod.mk.injEq, exists_eq_left', exists_eq_left, true_and, and_true, mLk, Option.any_some, mC1, Value.category, Option.toList_some, Option.toList_none, List.nil_append, List.cons_append, List.length_cons, List.length_nil, ne_eq, Nat.reduceEqDiff, not_false_eq_true, reduceCtorEq, exists_and_left, exists_and_right, Nat.reduceLeDiff, Nat.reduceAdd, and_self, exists_eq, exists_eq_right, exists_const, eq_self, exists_eq', not_true_eq_false, false_implies, true_implies, implies_true, forall_const, or_true, true_or, false_or, or_false, and_false, false_and, if_true, if_false, ite_true, ite_false, mB, mOk_int, mOk_ref, mOk_null, mOk_long, Nat.reduceLT, Nat.reduceSub, Nat.reduceMul, Nat.reduceDiv, Nat.reduceMod, Classical.not_not, ↓reduceIte, Nat.zero_add, Nat.add_zero, Nat.add_sub_cancel, tN_l, tN_m1, tN_n1, tN_n8, tN_dec, tN_dec8, aF_ef, aF_nf, aF_U, tN_lt, tN_le, tN_inj, tN_add, tN_mul, tN_sub, tN_and, tN_or, tN_xor, tN_and31, tN_clamp, tN_in, tN_div, nm_rem, tN_shl, tN_shr, tN_b2, nd_lt, nd_nlt, nd_le, nd_nle, nd_eq, nd_ne, mN_at, mN_U, aU_ne, aU_eq, aU_ne2, e21]
theorem l_22 {X : mX} {D : Nat} {cap : Nat × Nat} {P : mPost} {G : mG} {A : Nat → Nat → Nat} {O : Nat → Nat} {n : Nat} (hD : 1 ≤ D) (hn : n ≤ 12) (h5 : A 5 0 = n) (hO : ∀ i, i < n → O i < n) (hm : ∀ i, i < n → A 7 i ≤ 999) : ∀ m k u, k + m = n → mOk u = true → mW (mCall X D) X cap 22 P 2 [.ref 159, .ref 5, .int (tN k), u] [] (mN (aF A 160 (siO (A 7) O k)), RF, G, mSh) = P none (mN (aF A 160 (siO (A 7) O n)), RF, G, mSh) := by
  intro m
  induction m with
  | zero =>
    intro k u h gu
    obtain rfl : k = n := by omega
    rw [kh_22_2]
    simp (disch := first | omega | assumption | exact mOk_int | exact mOk_null | exact mOk_ref | (simp (disch := omega) only [aF_ef, aF_nf, aU_ne, aU_eq, aU_ne2]; first | done | omega | assumption)) only [k_22_0, r_push, is_2, il_2, al_1, q_getI, ri_icge, is_3, il_3, ri_ifle, gq_0, gq_1, gq_2, gq_3, gq_4, al_0, r_isub, q_iald, ii_3, r_goto, q_callV2, ii_2, r_vret, kd_0, kd_1, kd_2, kd_3, kd_4, kd_5, ln_0, ln_1, ln_2, ln_3, ln_4, ln_5, Option.some.injEq, Value.int.injEq, Value.ref.injEq, Value.long.injEq, Prod.mk.injEq, exists_eq_left', exists_eq_left, true_and, and_true, mLk, Option.any_some, mC1, Value.category, Option.toList_some, Option.toList_none, List.nil_append, List.cons_append, List.length_cons, List.length_nil, ne_eq, Nat.reduceEqDiff, not_false_eq_true, reduceCtorEq, exists_and_left, exists_and_right, Nat.reduceLeDiff, Nat.reduceAdd, and_self, exists_eq, exists_eq_right, exists_const, eq_self, exists_eq', not_true_eq_false, false_implies, true_implies, implies_true, forall_const, or_true, true_or, false_or, or_false, and_false, false_and, if_true, if_false, ite_true, ite_false, mB, mOk_int, mOk_ref, mOk_null, mOk_long, Nat.reduceLT, Nat.reduceSub, Nat.reduceMul, Nat.reduceDiv, Nat.reduceMod, Classical.not_not, ↓reduceIte, Nat.zero_add, Nat.add_zero, Nat.add_sub_cancel, tN_l, tN_m1, tN_n1, tN_n8, tN_dec, tN_dec8, aF_ef, aF_nf, aF_U, tN_lt, tN_le, tN_inj, tN_add, tN_mul, tN_sub, tN_and, tN_or, tN_xor, tN_and31, tN_clamp, tN_in, tN_div, nm_rem, tN_shl, tN_shr, tN_b2, nd_lt, nd_nlt, nd_le, nd_nle, nd_eq, nd_ne, mN_at, mN_U, aU_ne, aU_eq, aU_ne2, h5]
  | succ m ih =>
    intro k u h gu
    have lb := l_22b (X := X) (D := D) (cap := cap) (P := P) (G := G) (A := A) (O := siO (A 7) O k) (a := k) hD hn (by omega) (siO_lt hO k (by omega)) hm k (Nat.le_refl k)
    rw [kh_22_2]
    simp (disch := first | omega | assumption | exact mOk_int | exact mOk_null | exact mOk_ref | (simp (disch := omega) only [aF_ef, aF_nf, aU_ne, aU_eq, aU_ne2]; first | done | omega | assumption)) only [k_22_0, r_push, is_2, il_2, al_1, q_getI, ri_icge, is_3, il_3, ri_ifle, gq_0, gq_1, gq_2, gq_3, gq_4, al_0, r_isub, q_iald, ii_3, r_goto, q_callV2, ii_2, r_vret, kd_0, kd_1, kd_2, kd_3, kd_4, kd_5, ln_0, ln_1, ln_2, ln_3, ln_4, ln_5, Option.some.injEq, Value.int.injEq, Value.ref.injEq, Value.long.injEq, Prod.mk.injEq, exists_eq_left', exists_eq_left, true_and, and_true, mLk, Option.any_some, mC1, Value.category, Option.toList_some, Option.toList_none, List.nil_append, List.cons_append, List.length_cons, List.length_nil, ne_eq, Nat.reduceEqDiff, not_false_eq_true, reduceCtorEq, exists_and_left, exists_and_right, Nat.reduceLeDiff, Nat.reduceAdd, and_self, exists_eq, exists_eq_right, exists_const, eq_self, exists_eq', not_true_eq_false, false_implies, true_implies, implies_true, forall_const, or_true, true_or, false_or, or_false, and_false, false_and, if_true, if_false, ite_true, ite_false, mB, mOk_int, mOk_ref, mOk_null, mOk_long, Nat.reduceLT, Nat.reduceSub, Nat.reduceMul, Nat.reduceDiv, Nat.reduceMod, Classical.not_not, ↓reduceIte, Nat.zero_add, Nat.add_zero, Nat.add_sub_cancel, tN_l, tN_m1, tN_n1, tN_n8, tN_dec, tN_dec8, aF_ef, aF_nf, aF_U, tN_lt, tN_le, tN_inj, tN_add, tN_mul, tN_sub, tN_and, tN_or, tN_xor, tN_and31, tN_clamp, tN_in, tN_div, nm_rem, tN_shl, tN_shr, tN_b2, nd_lt, nd_nlt, nd_le, nd_nle, nd_eq, nd_ne, mN_at, mN_U, aU_ne, aU_eq, aU_ne2, h5]
    rw [lb]
    exact ih (k + 1) _ (by omega) mOk_int
theorem c_22 {X : mX} {D : Nat} {P : mPost} {A : Nat → Nat → Nat} {G : mG} (hD : 2 ≤ D) (hn : A 5 0 ≤ 12) (h1 : 1 ≤ A 5 0) (hO : ∀ i, i < A 5 0 → A 160 i < A 5 0) (hm : ∀ i, i < A 5 0 → A 7 i ≤ 999) : mCall X D 22 [.ref 159, .ref 5] (mN A, RF, G, mSh) P = P none (mN (aF A 160 (siO (A 7) (A 160) (A 5 0))), RF, G, mSh) := by
  rw [e_22 (by omega)]
  simp (disch := first | omega | assumption | exact mOk_int | exact mOk_null | exact mOk_ref | (simp (disch := omega) only [aF_ef, aF_nf, aU_ne, aU_eq, aU_ne2]; first | done | omega | assumption)) only [k_22_0, r_push, is_2, il_2, al_1, q_getI, ri_icge, is_3, il_3, ri_ifle, gq_0, gq_1, gq_2, gq_3, gq_4, al_0, r_isub, q_iald, ii_3, r_goto, q_callV2, ii_2, r_vret, kd_0, kd_1, kd_2, kd_3, kd_4, kd_5, ln_0, ln_1, ln_2, ln_3, ln_4, ln_5, Option.some.injEq, Value.int.injEq, Value.ref.injEq, Value.long.injEq, Prod.mk.injEq, exists_eq_left', exists_eq_left, true_and, and_true, mLk, Option.any_some, mC1, Value.category, Option.toList_some, Option.toList_none, List.nil_append, List.cons_append, List.length_cons, List.length_nil, ne_eq, Nat.reduceEqDiff, not_false_eq_true, reduceCtorEq, exists_and_left, exists_and_right, Nat.reduceLeDiff, Nat.reduceAdd, and_self, exists_eq, exists_eq_right, exists_const, eq_self, exists_eq', not_true_eq_false, false_implies, true_implies, implies_true, forall_const, or_true, true_or, false_or, or_false, and_false, false_and, if_true, if_false, ite_true, ite_false, mB, mOk_int, mOk_ref, mOk_null, mOk_long, Nat.reduceLT, Nat.reduceSub, Nat.reduceMul, Nat.reduceDiv, Nat.reduceMod, Classical.not_not, ↓reduceIte, Nat.zero_add, Nat.add_zero, Nat.add_sub_cancel, tN_l, tN_m1, tN_n1, tN_n8, tN_dec, tN_dec8, aF_ef, aF_nf, aF_U, tN_lt, tN_le, tN_inj, tN_add, tN_mul, tN_sub, tN_and, tN_or, tN_xor, tN_and31, tN_clamp, tN_in, tN_div, nm_rem, tN_shl, tN_shr, tN_b2, nd_lt, nd_nlt, nd_le, nd_nle, nd_eq, nd_ne, mN_at, mN_U, aU_ne, aU_eq, aU_ne2]
  have := l_22 (X := X) (D := D - 1) (cap := (mSh.length + (mAl 22).fst, mSum mSh + (mAl 22).snd)) (P := P) (G := G) (A := A) (O := A 160) (n := A 5 0) (by omega) hn rfl hO hm (A 5 0 - 1) 1 .null (by omega) mOk_null
  rw [show siO (A 7) (A 160) 1 = A 160 from mvD_00, aF_id (c := 160) (fun j => rfl)] at this
  exact this

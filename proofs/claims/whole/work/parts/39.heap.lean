set_option maxRecDepth 20000
set_option maxHeartbeats 4000000
/-! CLASS: heaps -/
def alb (x y : Nat) : Bool := decide (2 ≤ (if x % 10 = y % 10 then 1 else 0) + (if x / 10 % 10 = y / 10 % 10 then 1 else 0) + (if x / 100 % 10 = y / 100 % 10 then 1 else 0))
theorem alb_iff {x y : Nat} : alk x y = (alb x y = true) := by
  unfold alb
  rw [decide_eq_true_eq]
  rfl
theorem c_47b {X : mX} {D : Nat} {P : mPost} {A : Nat → Nat → Nat} {G : mG} {a b : Nat} (hD : 1 ≤ D) (ha : a < 12) (hb : b < 12) (h1 : A 8 a ≤ 999) (h2 : A 8 b ≤ 999) : mCall X D 47 [.ref 5, .int (tN a), .int (tN b)] (mN A, RF, G, mSh) P = P (some (.int (tN (if alb (A 8 a) (A 8 b) = true then 1 else 0)))) (mN A, RF, G, mSh) := by
  rw [c_47 hD ha hb h1 h2, alb_iff]
  by_cases h : alb (A 8 a) (A 8 b) = true
  · simp only [h, true_implies, if_true, not_true_eq_false, false_implies, and_true]
  · simp only [h, Bool.false_eq_true, false_implies, if_false, not_false_eq_true, true_implies, true_and]
def roI (al : Nat → Nat → Bool) (x a : Nat) : Nat → Nat
  | 0 => x
  | b + 1 => if (roI al x a b).testBit a = true ∧ al a b = true then roI al x a b ||| 1 <<< b else roI al x a b
def roO (al : Nat → Nat → Bool) (n x : Nat) : Nat → Nat
  | 0 => x
  | a + 1 => roI al (roO al n x a) a n
def hpI (al : Nat → Nat → Bool) (n x : Nat) : Nat → Nat
  | 0 => x
  | k + 1 => roO al n (hpI al n x k) n
theorem roI_lt {al : Nat → Nat → Bool} {x a : Nat} (h : x < 4096) : ∀ b, b ≤ 12 → roI al x a b < 4096
  | 0, _ => h
  | b + 1, hb => by
    unfold roI
    split
    · exact or_lt (roI_lt h b (by omega)) (by omega)
    · exact roI_lt h b (by omega)
theorem roO_lt {al : Nat → Nat → Bool} {n x : Nat} (h : x < 4096) (hn : n ≤ 12) : ∀ a, roO al n x a < 4096
  | 0 => h
  | a + 1 => roI_lt (roO_lt h hn a) n hn
theorem hpI_lt {al : Nat → Nat → Bool} {n x : Nat} (h : x < 4096) (hn : n ≤ 12) : ∀ k, hpI al n x k < 4096
  | 0 => h
  | k + 1 => roO_lt (hpI_lt h hn k) hn n
theorem roI_sub {al : Nat → Nat → Bool} {x a j : Nat} (h : x.testBit j = true) : ∀ b, (roI al x a b).testBit j = true
  | 0 => h
  | b + 1 => by
    unfold roI
    split
    · rw [Nat.testBit_or, roI_sub h b, Bool.true_or]
    · exact roI_sub h b
theorem roO_sub {al : Nat → Nat → Bool} {n x j : Nat} (h : x.testBit j = true) : ∀ a, (roO al n x a).testBit j = true
  | 0 => h
  | a + 1 => roI_sub (roO_sub h a) n
theorem hpI_sub {al : Nat → Nat → Bool} {n x j : Nat} (h : x.testBit j = true) : ∀ k, (hpI al n x k).testBit j = true
  | 0 => h
  | k + 1 => roO_sub (hpI_sub h k) n
theorem bit_1 {h a : Nat} : (tN (if h.testBit a = true then 1 else 0) = tN 1) = (h.testBit a = true) := by
  by_cases c : h.testBit a = true
  · rw [if_pos c]; exact (eq_true rfl).trans (eq_true c).symm
  · rw [if_neg c]; exact (eq_false (by decide)).trans (eq_false c).symm
theorem l_46b {X : mX} {D : Nat} {cap : Nat × Nat} {P : mPost} {G : mG} {A : Nat → Nat → Nat} {x y a : Nat} (hD : 1 ≤ D) (hn : A 5 0 ≤ 12) (ha : a < A 5 0) (hm : ∀ i, i < A 5 0 → A 8 i ≤ 999) (hx : x < 4096) : ∀ m b, b + m = A 5 0 → mW (mCall X D) X cap 46 P 15 [.ref 5, .int (tN y), .int (tN (roI (fun i j => alb (A 8 i) (A 8 j)) x a b)), .int (tN a), .int (tN b)] [] (mN A, RF, G, mSh) = mW (mCall X D) X cap 46 P 4 [.ref 5, .int (tN y), .int (tN (roI (fun i j => alb (A 8 i) (A 8 j)) x a (A 5 0))), .int (tN (a + 1)), .int (tN (A 5 0))] [] (mN A, RF, G, mSh) := by
  intro m
  induction m with
  | zero =>
    intro b h
    obtain rfl : b = A 5 0 := by omega
    rw [kh_46_15]
    simp (disch := first | omega | assumption | exact mOk_int | exact mOk_null | exact mOk_ref | (simp (disch := omega) only [aF_ef, aF_nf, aU_ne, aU_eq, aU_ne2]; first | done | omega | assumption)) only [k_46_0, il_1, is_2, r_push, is_3, il_3, al_0, q_getI, ri_icge, is_4, il_4, il_2, r_ishr, r_iand, ri_icne, q_callV2, ri_ifeq, r_ishl, r_ior, ii_4, r_goto, ii_3, r_iret, kd_0, kd_1, kd_2, kd_3, kd_4, kd_5, ln_0, ln_1, ln_2, ln_3, ln_4, ln_5, Option.some.injEq, Value.int.injEq, Value.ref.injEq, Value.long.injEq, Prod.mk.injEq, exists_eq_left', exists_eq_left, true_and, and_true, mLk, Option.any_some, mC1, Value.category, Option.toList_some, Option.toList_none, List.nil_append, List.cons_append, List.length_cons, List.length_nil, ne_eq, Nat.reduceEqDiff, not_false_eq_true, reduceCtorEq, exists_and_left, exists_and_right, Nat.reduceLeDiff, Nat.reduceAdd, and_self, exists_eq, exists_eq_right, exists_const, eq_self, exists_eq', not_true_eq_false, false_implies, true_implies, implies_true, forall_const, or_true, true_or, false_or, or_false, and_false, false_and, if_true, if_false, ite_true, ite_false, mB, mOk_int, mOk_ref, mOk_null, mOk_long, Nat.reduceLT, Nat.reduceSub, Nat.reduceMul, Nat.reduceDiv, Nat.reduceMod, Classical.not_not, ↓reduceIte, Nat.zero_add, Nat.add_zero, Nat.add_sub_cancel, Bool.false_eq_true, tN_l, tN_m1, tN_n1, tN_n8, tN_dec, tN_dec8, aF_ef, aF_nf, aF_U, tN_lt, tN_le, tN_inj, tN_add, tN_mul, tN_sub, tN_and, tN_or, tN_xor, tN_and31, tN_clamp, tN_in, tN_div, nm_rem, tN_shl, tN_shr, tN_b2, nd_lt, nd_nlt, nd_le, nd_nle, nd_eq, nd_ne, mN_at, mN_U, aU_ne, aU_eq, aU_ne2]
  | succ m ih =>
    intro b h
    have ih' := ih (b + 1) (by omega)
    have m1 := hm a ha
    have m2 := hm b (by omega)
    have hl := roI_lt (al := fun i j => alb (A 8 i) (A 8 j)) (a := a) hx b (by omega)
    rw [kh_46_15]
    by_cases c1 : (roI (fun i j => alb (A 8 i) (A 8 j)) x a b).testBit a = true
    · by_cases c2 : alb (A 8 a) (A 8 b) = true
      · simp only [roI, c1, c2, and_self, if_true] at ih'
        simp (disch := first | omega | assumption | exact mOk_int | exact mOk_null | exact mOk_ref | (simp (disch := omega) only [aF_ef, aF_nf, aU_ne, aU_eq, aU_ne2]; first | done | omega | assumption)) only [k_46_0, il_1, is_2, r_push, is_3, il_3, al_0, q_getI, ri_icge, is_4, il_4, il_2, r_ishr, r_iand, ri_icne, q_callV2, ri_ifeq, r_ishl, r_ior, ii_4, r_goto, ii_3, r_iret, kd_0, kd_1, kd_2, kd_3, kd_4, kd_5, ln_0, ln_1, ln_2, ln_3, ln_4, ln_5, Option.some.injEq, Value.int.injEq, Value.ref.injEq, Value.long.injEq, Prod.mk.injEq, exists_eq_left', exists_eq_left, true_and, and_true, mLk, Option.any_some, mC1, Value.category, Option.toList_some, Option.toList_none, List.nil_append, List.cons_append, List.length_cons, List.length_nil, ne_eq, Nat.reduceEqDiff, not_false_eq_true, reduceCtorEq, exists_and_left, exists_and_right, Nat.reduceLeDiff, Nat.reduceAdd, and_self, exists_eq, exists_eq_right, exists_const, eq_self, exists_eq', not_true_eq_false, false_implies, true_implies, implies_true, forall_const, or_true, true_or, false_or, or_false, and_false, false_and, if_true, if_false, ite_true, ite_false, mB, mOk_int, mOk_ref, mOk_null, mOk_long, Nat.reduceLT, Nat.reduceSub, Nat.reduceMul, Nat.reduceDiv, Nat.reduceMod, Classical.not_not, ↓reduceIte, Nat.zero_add, Nat.add_zero, Nat.add_sub_cancel, Bool.false_eq_true, tN_l, tN_m1, tN_n1, tN_n8, tN_dec, tN_dec8, aF_ef, aF_nf, aF_U, tN_lt, tN_le, tN_inj, tN_add, tN_mul, tN_sub, tN_and, tN_or, tN_xor, tN_and31, tN_clamp, tN_in, tN_div, nm_rem, tN_shl, tN_shr, tN_b2, nd_lt, nd_nlt, nd_le, nd_nle, nd_eq, nd_ne, mN_at, mN_U, aU_ne, aU_eq, aU_ne2, bit_n, bit_1, c1, c2, c_47b]
        exact ih'
      · simp only [roI, c2, Bool.false_eq_true, and_false, if_false] at ih'
        simp (disch := first | omega | assumption | exact mOk_int | exact mOk_null | exact mOk_ref | (simp (disch := omega) only [aF_ef, aF_nf, aU_ne, aU_eq, aU_ne2]; first | done | omega | assumption)) only [k_46_0, il_1, is_2, r_push, is_3, il_3, al_0, q_getI, ri_icge, is_4, il_4, il_2, r_ishr, r_iand, ri_icne, q_callV2, ri_ifeq, r_ishl, r_ior, ii_4, r_goto, ii_3, r_iret, kd_0, kd_1, kd_2, kd_3, kd_4, kd_5, ln_0, ln_1, ln_2, ln_3, ln_4, ln_5, Option.some.injEq, Value.int.injEq, Value.ref.injEq, Value.long.injEq, Prod.mk.injEq, exists_eq_left', exists_eq_left, true_and, and_true, mLk, Option.any_some, mC1, Value.category, Option.toList_some, Option.toList_none, List.nil_append, List.cons_append, List.length_cons, List.length_nil, ne_eq, Nat.reduceEqDiff, not_false_eq_true, reduceCtorEq, exists_and_left, exists_and_right, Nat.reduceLeDiff, Nat.reduceAdd, and_self, exists_eq, exists_eq_right, exists_const, eq_self, exists_eq', not_true_eq_false, false_implies, true_implies, implies_true, forall_const, or_true, true_or, false_or, or_false, and_false, false_and, if_true, if_false, ite_true, ite_false, mB, mOk_int, mOk_ref, mOk_null, mOk_long, Nat.reduceLT, Nat.reduceSub, Nat.reduceMul, Nat.reduceDiv, Nat.reduceMod, Classical.not_not, ↓reduceIte, Nat.zero_add, Nat.add_zero, Nat.add_sub_cancel, Bool.false_eq_true, tN_l, tN_m1, tN_n1, tN_n8, tN_dec, tN_dec8, aF_ef, aF_nf, aF_U, tN_lt, tN_le, tN_inj, tN_add, tN_mul, tN_sub, tN_and, tN_or, tN_xor, tN_and31, tN_clamp, tN_in, tN_div, nm_rem, tN_shl, tN_shr, tN_b2, nd_lt, nd_nlt, nd_le, nd_nle, nd_eq, nd_ne, mN_at, mN_U, aU_ne, aU_eq, aU_ne2, bit_n, bit_1, c1, c2, c_47b]
        exact ih'
    · simp only [roI, c1, Bool.false_eq_true, false_and, if_false] at ih'
      simp (disch := first | omega | assumption | exact mOk_int | exact mOk_null | exact mOk_ref | (simp (disch := omega) only [aF_ef, aF_nf, aU_ne, aU_eq, aU_ne2]; first | done | omega | assumption)) only [k_46_0, il_1, is_2, r_push, is_3, il_3, al_0, q_getI, ri_icge, is_4, il_4, il_2, r_ishr, r_iand, ri_icne, q_callV2, ri_ifeq, r_ishl, r_ior, ii_4, r_goto, ii_3, r_iret, kd_0, kd_1, kd_2, kd_3, kd_4, kd_5, ln_0, ln_1, ln_2, ln_3, ln_4, ln_5, Option.some.injEq, Value.int.injEq, Value.ref.injEq, Value.long.injEq, Prod.mk.injEq, exists_eq_left', exists_eq_left, true_and, and_true, mLk, Option.any_some, mC1, Value.category, Option.toList_some, Option.toList_none, List.nil_append, List.cons_append, List.length_cons, List.length_nil, ne_eq, Nat.reduceEqDiff, not_false_eq_true, reduceCtorEq, exists_and_left, exists_and_right, Nat.reduceLeDiff, Nat.reduceAdd, and_self, exists_eq, exists_eq_right, exists_const, eq_self, exists_eq', not_true_eq_false, false_implies, true_implies, implies_true, forall_const, or_true, true_or, false_or, or_false, and_false, false_and, if_true, if_false, ite_true, ite_false, mB, mOk_int, mOk_ref, mOk_null, mOk_long, Nat.reduceLT, Nat.reduceSub, Nat.reduceMul, Nat.reduceDiv, Nat.reduceMod, Classical.not_not, ↓reduceIte, Nat.zero_add, Nat.add_zero, Nat.add_sub_cancel, Bool.false_eq_true, tN_l, tN_m1, tN_n1, tN_n8, tN_dec, tN_dec8, aF_ef, aF_nf, aF_U, tN_lt, tN_le, tN_inj, tN_add, tN_mul, tN_sub, tN_and, tN_or, tN_xor, tN_and31, tN_clamp, tN_in, tN_div, nm_rem, tN_shl, tN_shr, tN_b2, nd_lt, nd_nlt, nd_le, nd_nle, nd_eq, nd_ne, mN_at, mN_U, aU_ne, aU_eq, aU_ne2, bit_n, bit_1, c1]
      exact ih'
theorem l_46 {X : mX} {D : Nat} {cap : Nat × Nat} {P : mPost} {G : mG} {A : Nat → Nat → Nat} {x : Nat} (hD : 1 ≤ D) (hn : A 5 0 ≤ 12) (hm : ∀ i, i < A 5 0 → A 8 i ≤ 999) (hx : x < 4096) : ∀ m k u, k + m = A 5 0 → mOk u = true → mW (mCall X D) X cap 46 P 4 [.ref 5, .int (tN x), .int (tN (roO (fun i j => alb (A 8 i) (A 8 j)) (A 5 0) x k)), .int (tN k), u] [] (mN A, RF, G, mSh) = P (some (.int (tN (roO (fun i j => alb (A 8 i) (A 8 j)) (A 5 0) x (A 5 0))))) (mN A, RF, G, mSh) := by
  intro m
  induction m with
  | zero =>
    intro k u h gu
    obtain rfl : k = A 5 0 := by omega
    rw [kh_46_4]
    simp (disch := first | omega | assumption | exact mOk_int | exact mOk_null | exact mOk_ref | (simp (disch := omega) only [aF_ef, aF_nf, aU_ne, aU_eq, aU_ne2]; first | done | omega | assumption)) only [k_46_0, il_1, is_2, r_push, is_3, il_3, al_0, q_getI, ri_icge, is_4, il_4, il_2, r_ishr, r_iand, ri_icne, q_callV2, ri_ifeq, r_ishl, r_ior, ii_4, r_goto, ii_3, r_iret, kd_0, kd_1, kd_2, kd_3, kd_4, kd_5, ln_0, ln_1, ln_2, ln_3, ln_4, ln_5, Option.some.injEq, Value.int.injEq, Value.ref.injEq, Value.long.injEq, Prod.mk.injEq, exists_eq_left', exists_eq_left, true_and, and_true, mLk, Option.any_some, mC1, Value.category, Option.toList_some, Option.toList_none, List.nil_append, List.cons_append, List.length_cons, List.length_nil, ne_eq, Nat.reduceEqDiff, not_false_eq_true, reduceCtorEq, exists_and_left, exists_and_right, Nat.reduceLeDiff, Nat.reduceAdd, and_self, exists_eq, exists_eq_right, exists_const, eq_self, exists_eq', not_true_eq_false, false_implies, true_implies, implies_true, forall_const, or_true, true_or, false_or, or_false, and_false, false_and, if_true, if_false, ite_true, ite_false, mB, mOk_int, mOk_ref, mOk_null, mOk_long, Nat.reduceLT, Nat.reduceSub, Nat.reduceMul, Nat.reduceDiv, Nat.reduceMod, Classical.not_not, ↓reduceIte, Nat.zero_add, Nat.add_zero, Nat.add_sub_cancel, Bool.false_eq_true, tN_l, tN_m1, tN_n1, tN_n8, tN_dec, tN_dec8, aF_ef, aF_nf, aF_U, tN_lt, tN_le, tN_inj, tN_add, tN_mul, tN_sub, tN_and, tN_or, tN_xor, tN_and31, tN_clamp, tN_in, tN_div, nm_rem, tN_shl, tN_shr, tN_b2, nd_lt, nd_nlt, nd_le, nd_nle, nd_eq, nd_ne, mN_at, mN_U, aU_ne, aU_eq, aU_ne2]
  | succ m ih =>
    intro k u h gu
    have lb := l_46b (X := X) (D := D) (cap := cap) (P := P) (G := G) (A := A) (x := roO (fun i j => alb (A 8 i) (A 8 j)) (A 5 0) x k) (y := x) (a := k) hD hn (by omega) hm (roO_lt hx hn k) (A 5 0) 0 (by omega)
    rw [kh_46_4]
    simp (disch := first | omega | assumption | exact mOk_int | exact mOk_null | exact mOk_ref | (simp (disch := omega) only [aF_ef, aF_nf, aU_ne, aU_eq, aU_ne2]; first | done | omega | assumption)) only [k_46_0, il_1, is_2, r_push, is_3, il_3, al_0, q_getI, ri_icge, is_4, il_4, il_2, r_ishr, r_iand, ri_icne, q_callV2, ri_ifeq, r_ishl, r_ior, ii_4, r_goto, ii_3, r_iret, kd_0, kd_1, kd_2, kd_3, kd_4, kd_5, ln_0, ln_1, ln_2, ln_3, ln_4, ln_5, Option.some.injEq, Value.int.injEq, Value.ref.injEq, Value.long.injEq, Prod.mk.injEq, exists_eq_left', exists_eq_left, true_and, and_true, mLk, Option.any_some, mC1, Value.category, Option.toList_some, Option.toList_none, List.nil_append, List.cons_append, List.length_cons, List.length_nil, ne_eq, Nat.reduceEqDiff, not_false_eq_true, reduceCtorEq, exists_and_left, exists_and_right, Nat.reduceLeDiff, Nat.reduceAdd, and_self, exists_eq, exists_eq_right, exists_const, eq_self, exists_eq', not_true_eq_false, false_implies, true_implies, implies_true, forall_const, or_true, true_or, false_or, or_false, and_false, false_and, if_true, if_false, ite_true, ite_false, mB, mOk_int, mOk_ref, mOk_null, mOk_long, Nat.reduceLT, Nat.reduceSub, Nat.reduceMul, Nat.reduceDiv, Nat.reduceMod, Classical.not_not, ↓reduceIte, Nat.zero_add, Nat.add_zero, Nat.add_sub_cancel, Bool.false_eq_true, tN_l, tN_m1, tN_n1, tN_n8, tN_dec, tN_dec8, aF_ef, aF_nf, aF_U, tN_lt, tN_le, tN_inj, tN_add, tN_mul, tN_sub, tN_and, tN_or, tN_xor, tN_and31, tN_clamp, tN_in, tN_div, nm_rem, tN_shl, tN_shr, tN_b2, nd_lt, nd_nlt, nd_le, nd_nle, nd_eq, nd_ne, mN_at, mN_U, aU_ne, aU_eq, aU_ne2]
    exact lb.trans (ih (k + 1) _ (by omega) mOk_int)
theorem c_46 {X : mX} {D : Nat} {P : mPost} {A : Nat → Nat → Nat} {G : mG} {x : Nat} (hD : 2 ≤ D) (hn : A 5 0 ≤ 12) (hm : ∀ i, i < A 5 0 → A 8 i ≤ 999) (hx : x < 4096) : mCall X D 46 [.ref 5, .int (tN x)] (mN A, RF, G, mSh) P = P (some (.int (tN (roO (fun i j => alb (A 8 i) (A 8 j)) (A 5 0) x (A 5 0))))) (mN A, RF, G, mSh) := by
  rw [e_46 (by omega)]
  simp (disch := first | omega | assumption | exact mOk_int | exact mOk_null | exact mOk_ref | (simp (disch := omega) only [aF_ef, aF_nf, aU_ne, aU_eq, aU_ne2]; first | done | omega | assumption)) only [k_46_0, il_1, is_2, r_push, is_3, il_3, al_0, q_getI, ri_icge, is_4, il_4, il_2, r_ishr, r_iand, ri_icne, q_callV2, ri_ifeq, r_ishl, r_ior, ii_4, r_goto, ii_3, r_iret, kd_0, kd_1, kd_2, kd_3, kd_4, kd_5, ln_0, ln_1, ln_2, ln_3, ln_4, ln_5, Option.some.injEq, Value.int.injEq, Value.ref.injEq, Value.long.injEq, Prod.mk.injEq, exists_eq_left', exists_eq_left, true_and, and_true, mLk, Option.any_some, mC1, Value.category, Option.toList_some, Option.toList_none, List.nil_append, List.cons_append, List.length_cons, List.length_nil, ne_eq, Nat.reduceEqDiff, not_false_eq_true, reduceCtorEq, exists_and_left, exists_and_right, Nat.reduceLeDiff, Nat.reduceAdd, and_self, exists_eq, exists_eq_right, exists_const, eq_self, exists_eq', not_true_eq_false, false_implies, true_implies, implies_true, forall_const, or_true, true_or, false_or, or_false, and_false, false_and, if_true, if_false, ite_true, ite_false, mB, mOk_int, mOk_ref, mOk_null, mOk_long, Nat.reduceLT, Nat.reduceSub, Nat.reduceMul, Nat.reduceDiv, Nat.reduceMod, Classical.not_not, ↓reduceIte, Nat.zero_add, Nat.add_zero, Nat.add_sub_cancel, Bool.false_eq_true, tN_l, tN_m1, tN_n1, tN_n8, tN_dec, tN_dec8, aF_ef, aF_nf, aF_U, tN_lt, tN_le, tN_inj, tN_add, tN_mul, tN_sub, tN_and, tN_or, tN_xor, tN_and31, tN_clamp, tN_in, tN_div, nm_rem, tN_shl, tN_shr, tN_b2, nd_lt, nd_nlt, nd_le, nd_nle, nd_eq, nd_ne, mN_at, mN_U, aU_ne, aU_eq, aU_ne2]
  exact l_46 (by omega) hn hm hx (A 5 0) 0 _ (by omega) mOk_null
theorem l_45 {X : mX} {D : Nat} {cap : Nat × Nat} {P : mPost} {G : mG} {A : Nat → Nat → Nat} {x a : Nat} (hD : 2 ≤ D) (hn : A 5 0 ≤ 12) (hm : ∀ i, i < A 5 0 → A 8 i ≤ 999) (hx : x < 4096) (h0 : x.testBit a = true) : ∀ m k, k + m = A 5 0 → mW (mCall X D) X cap 45 P 6 [.ref 5, .int (tN a), .int (tN (hpI (fun i j => alb (A 8 i) (A 8 j)) (A 5 0) x k)), .int (tN k)] [] (mN A, RF, G, mSh) = P (some (.int (tN (lob (hpI (fun i j => alb (A 8 i) (A 8 j)) (A 5 0) x (A 5 0)))))) (mN A, RF, G, mSh) := by
  intro m
  induction m with
  | zero =>
    intro k h
    obtain rfl : k = A 5 0 := by omega
    have h1 := hpI_lt (al := fun i j => alb (A 8 i) (A 8 j)) hx hn (A 5 0)
    have h2 : hpI (fun i j => alb (A 8 i) (A 8 j)) (A 5 0) x (A 5 0) ≠ 0 := fun z => by
      have := hpI_sub (al := fun i j => alb (A 8 i) (A 8 j)) (n := A 5 0) h0 (A 5 0)
      rw [z, Nat.zero_testBit] at this
      cases this
    rw [kh_45_6]
    simp (disch := first | omega | assumption | exact mOk_int | exact mOk_null | exact mOk_ref | (simp (disch := omega) only [aF_ef, aF_nf, aU_ne, aU_eq, aU_ne2]; first | done | omega | assumption)) only [k_45_0, r_push, il_1, r_ishl, is_2, is_3, il_3, al_0, q_getI, ri_icge, il_2, q_callV1, ii_3, r_goto, r_callS1, r_iret, kd_0, kd_1, kd_2, kd_3, kd_4, kd_5, ln_0, ln_1, ln_2, ln_3, ln_4, ln_5, Option.some.injEq, Value.int.injEq, Value.ref.injEq, Value.long.injEq, Prod.mk.injEq, exists_eq_left', exists_eq_left, true_and, and_true, mLk, Option.any_some, mC1, Value.category, Option.toList_some, Option.toList_none, List.nil_append, List.cons_append, List.length_cons, List.length_nil, ne_eq, Nat.reduceEqDiff, not_false_eq_true, reduceCtorEq, exists_and_left, exists_and_right, Nat.reduceLeDiff, Nat.reduceAdd, and_self, exists_eq, exists_eq_right, exists_const, eq_self, exists_eq', not_true_eq_false, false_implies, true_implies, implies_true, forall_const, or_true, true_or, false_or, or_false, and_false, false_and, if_true, if_false, ite_true, ite_false, mB, mOk_int, mOk_ref, mOk_null, mOk_long, Nat.reduceLT, Nat.reduceSub, Nat.reduceMul, Nat.reduceDiv, Nat.reduceMod, Classical.not_not, ↓reduceIte, Nat.zero_add, Nat.add_zero, Nat.add_sub_cancel, Bool.false_eq_true, tN_l, tN_m1, tN_n1, tN_n8, tN_dec, tN_dec8, aF_ef, aF_nf, aF_U, tN_lt, tN_le, tN_inj, tN_add, tN_mul, tN_sub, tN_and, tN_or, tN_xor, tN_and31, tN_clamp, tN_in, tN_div, nm_rem, tN_shl, tN_shr, tN_b2, nd_lt, nd_nlt, nd_le, nd_nle, nd_eq, nd_ne, mN_at, mN_U, aU_ne, aU_eq, aU_ne2, c_29]
  | succ m ih =>
    intro k h
    have ih' := ih (k + 1) (by omega)
    have e46 := fun P' => c_46 (X := X) (D := D) (P := P') (G := G) (A := A) (x := hpI (fun i j => alb (A 8 i) (A 8 j)) (A 5 0) x k) hD hn hm (hpI_lt hx hn k)
    rw [kh_45_6]
    simp (disch := first | omega | assumption | exact mOk_int | exact mOk_null | exact mOk_ref | (simp (disch := omega) only [aF_ef, aF_nf, aU_ne, aU_eq, aU_ne2]; first | done | omega | assumption)) only [k_45_0, r_push, il_1, r_ishl, is_2, is_3, il_3, al_0, q_getI, ri_icge, il_2, q_callV1, ii_3, r_goto, r_callS1, r_iret, kd_0, kd_1, kd_2, kd_3, kd_4, kd_5, ln_0, ln_1, ln_2, ln_3, ln_4, ln_5, Option.some.injEq, Value.int.injEq, Value.ref.injEq, Value.long.injEq, Prod.mk.injEq, exists_eq_left', exists_eq_left, true_and, and_true, mLk, Option.any_some, mC1, Value.category, Option.toList_some, Option.toList_none, List.nil_append, List.cons_append, List.length_cons, List.length_nil, ne_eq, Nat.reduceEqDiff, not_false_eq_true, reduceCtorEq, exists_and_left, exists_and_right, Nat.reduceLeDiff, Nat.reduceAdd, and_self, exists_eq, exists_eq_right, exists_const, eq_self, exists_eq', not_true_eq_false, false_implies, true_implies, implies_true, forall_const, or_true, true_or, false_or, or_false, and_false, false_and, if_true, if_false, ite_true, ite_false, mB, mOk_int, mOk_ref, mOk_null, mOk_long, Nat.reduceLT, Nat.reduceSub, Nat.reduceMul, Nat.reduceDiv, Nat.reduceMod, Classical.not_not, ↓reduceIte, Nat.zero_add, Nat.add_zero, Nat.add_sub_cancel, Bool.false_eq_true, tN_l, tN_m1, tN_n1, tN_n8, tN_dec, tN_dec8, aF_ef, aF_nf, aF_U, tN_lt, tN_le, tN_inj, tN_add, tN_mul, tN_sub, tN_and, tN_or, tN_xor, tN_and31, tN_clamp, tN_in, tN_div, nm_rem, tN_shl, tN_shr, tN_b2, nd_lt, nd_nlt, nd_le, nd_nle, nd_eq, nd_ne, mN_at, mN_U, aU_ne, aU_eq, aU_ne2, e46]
    exact ih'
theorem sh1_lt {a : Nat} (h : a < 12) : 1 <<< a < 4096 := by
  rw [Nat.one_shiftLeft]
  exact Nat.pow_lt_pow_right (a := 2) (n := 12) (by omega) h
theorem sh1_bit {a : Nat} : (1 <<< a).testBit a = true := by
  rw [Nat.one_shiftLeft, Nat.testBit_two_pow_self]
theorem c_45 {X : mX} {D : Nat} {P : mPost} {A : Nat → Nat → Nat} {G : mG} {a : Nat} (hD : 3 ≤ D) (hn : A 5 0 ≤ 12) (hm : ∀ i, i < A 5 0 → A 8 i ≤ 999) (ha : a < A 5 0) : mCall X D 45 [.ref 5, .int (tN a)] (mN A, RF, G, mSh) P = P (some (.int (tN (lob (hpI (fun i j => alb (A 8 i) (A 8 j)) (A 5 0) (1 <<< a) (A 5 0)))))) (mN A, RF, G, mSh) := by
  rw [e_45 (by omega)]
  simp (disch := first | omega | assumption | exact mOk_int | exact mOk_null | exact mOk_ref | (simp (disch := omega) only [aF_ef, aF_nf, aU_ne, aU_eq, aU_ne2]; first | done | omega | assumption)) only [k_45_0, r_push, il_1, r_ishl, is_2, is_3, il_3, al_0, q_getI, ri_icge, il_2, q_callV1, ii_3, r_goto, r_callS1, r_iret, kd_0, kd_1, kd_2, kd_3, kd_4, kd_5, ln_0, ln_1, ln_2, ln_3, ln_4, ln_5, Option.some.injEq, Value.int.injEq, Value.ref.injEq, Value.long.injEq, Prod.mk.injEq, exists_eq_left', exists_eq_left, true_and, and_true, mLk, Option.any_some, mC1, Value.category, Option.toList_some, Option.toList_none, List.nil_append, List.cons_append, List.length_cons, List.length_nil, ne_eq, Nat.reduceEqDiff, not_false_eq_true, reduceCtorEq, exists_and_left, exists_and_right, Nat.reduceLeDiff, Nat.reduceAdd, and_self, exists_eq, exists_eq_right, exists_const, eq_self, exists_eq', not_true_eq_false, false_implies, true_implies, implies_true, forall_const, or_true, true_or, false_or, or_false, and_false, false_and, if_true, if_false, ite_true, ite_false, mB, mOk_int, mOk_ref, mOk_null, mOk_long, Nat.reduceLT, Nat.reduceSub, Nat.reduceMul, Nat.reduceDiv, Nat.reduceMod, Classical.not_not, ↓reduceIte, Nat.zero_add, Nat.add_zero, Nat.add_sub_cancel, Bool.false_eq_true, tN_l, tN_m1, tN_n1, tN_n8, tN_dec, tN_dec8, aF_ef, aF_nf, aF_U, tN_lt, tN_le, tN_inj, tN_add, tN_mul, tN_sub, tN_and, tN_or, tN_xor, tN_and31, tN_clamp, tN_in, tN_div, nm_rem, tN_shl, tN_shr, tN_b2, nd_lt, nd_nlt, nd_le, nd_nle, nd_eq, nd_ne, mN_at, mN_U, aU_ne, aU_eq, aU_ne2]
  exact l_45 (by omega) hn hm (sh1_lt (by omega)) sh1_bit (A 5 0) 0 (by omega)

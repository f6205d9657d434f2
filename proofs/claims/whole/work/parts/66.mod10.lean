set_option maxRecDepth 20000
set_option maxHeartbeats 4000000
/-! MODEL: clear, heap -/
theorem ml_141a {X : mX} {D : Nat} {cap : Nat × Nat} {P : mPost} {G : mG} {B : Nat → Nat → Nat} : ∀ m k, k + m = 12 → mW (mCall X D) X cap 141 P 34 [.ref 185, .int (tN k)] [] (mN (aF (aF B 200 (fun i => if i < k then 0 else B 200 i)) 201 (fun i => if i < k then 0 else B 201 i)), RF, G, mSh) = mW (mCall X D) X cap 141 P 62 [.ref 185, .int (tN 0)] [] (mN (aF (aF B 200 (fun i => if i < 12 then 0 else B 200 i)) 201 (fun i => if i < 12 then 0 else B 201 i)), RF, G, mSh) := by
  intro m
  induction m with
  | zero =>
    intro k h
    obtain rfl : k = 12 := by omega
    rw [kh_141_34]
    simp (disch := first | omega | assumption | exact mOk_int | exact mOk_null | exact mOk_ref | (simp (disch := omega) only [aF_ef, aF_nf, aU_ne, aU_eq, aU_ne2]; first | done | omega | assumption)) only [k_141_0, k_141_1, al_0, r_push, q_putI, q_callV1, gq_0, gq_1, gq_2, gq_3, gq_4, q_bast, q_iast, is_1, il_1, ri_icge, ii_1, r_goto, r_vret, kd_0, kd_1, kd_2, kd_3, kd_4, kd_5, ln_0, ln_1, ln_2, ln_3, ln_4, ln_5, Option.some.injEq, Value.int.injEq, Value.ref.injEq, Value.long.injEq, Prod.mk.injEq, exists_eq_left', exists_eq_left, true_and, and_true, mLk, Option.any_some, mC1, Value.category, Option.toList_some, Option.toList_none, List.nil_append, List.cons_append, List.length_cons, List.length_nil, ne_eq, Nat.reduceEqDiff, not_false_eq_true, reduceCtorEq, exists_and_left, exists_and_right, Nat.reduceLeDiff, Nat.reduceAdd, and_self, exists_eq, exists_eq_right, exists_const, eq_self, exists_eq', not_true_eq_false, false_implies, true_implies, implies_true, forall_const, or_true, true_or, false_or, or_false, and_false, false_and, if_true, if_false, ite_true, ite_false, mB, mOk_int, mOk_ref, mOk_null, mOk_long, Nat.reduceLT, Nat.reduceSub, Nat.reduceMul, Nat.reduceDiv, Nat.reduceMod, Classical.not_not, ↓reduceIte, Nat.zero_add, Nat.add_zero, Nat.add_sub_cancel, Bool.false_eq_true, tN_l, tN_m1, tN_n1, tN_n8, tN_dec, tN_dec8, aF_ef, aF_nf, aF_U, tN_lt, tN_le, tN_inj, tN_add, tN_mul, tN_sub, tN_and, tN_or, tN_xor, tN_and31, tN_clamp, tN_in, tN_div, nm_rem, tN_shl, tN_shr, tN_b2, nd_lt, nd_nlt, nd_le, nd_nle, nd_eq, nd_ne, mN_at, mN_U, aU_ne, aU_eq, aU_ne2]
  | succ m ih =>
    intro k h
    rw [← ih (k + 1) (by omega), kh_141_34]
    simp (disch := first | omega | assumption | exact mOk_int | exact mOk_null | exact mOk_ref | (simp (disch := omega) only [aF_ef, aF_nf, aU_ne, aU_eq, aU_ne2]; first | done | omega | assumption)) only [k_141_0, k_141_1, al_0, r_push, q_putI, q_callV1, gq_0, gq_1, gq_2, gq_3, gq_4, q_bast, q_iast, is_1, il_1, ri_icge, ii_1, r_goto, r_vret, kd_0, kd_1, kd_2, kd_3, kd_4, kd_5, ln_0, ln_1, ln_2, ln_3, ln_4, ln_5, Option.some.injEq, Value.int.injEq, Value.ref.injEq, Value.long.injEq, Prod.mk.injEq, exists_eq_left', exists_eq_left, true_and, and_true, mLk, Option.any_some, mC1, Value.category, Option.toList_some, Option.toList_none, List.nil_append, List.cons_append, List.length_cons, List.length_nil, ne_eq, Nat.reduceEqDiff, not_false_eq_true, reduceCtorEq, exists_and_left, exists_and_right, Nat.reduceLeDiff, Nat.reduceAdd, and_self, exists_eq, exists_eq_right, exists_const, eq_self, exists_eq', not_true_eq_false, false_implies, true_implies, implies_true, forall_const, or_true, true_or, false_or, or_false, and_false, false_and, if_true, if_false, ite_true, ite_false, mB, mOk_int, mOk_ref, mOk_null, mOk_long, Nat.reduceLT, Nat.reduceSub, Nat.reduceMul, Nat.reduceDiv, Nat.reduceMod, Classical.not_not, ↓reduceIte, Nat.zero_add, Nat.add_zero, Nat.add_sub_cancel, Bool.false_eq_true, tN_l, tN_m1, tN_n1, tN_n8, tN_dec, tN_dec8, aF_ef, aF_nf, aF_U, tN_lt, tN_le, tN_inj, tN_add, tN_mul, tN_sub, tN_and, tN_or, tN_xor, tN_and31, tN_clamp, tN_in, tN_div, nm_rem, tN_shl, tN_shr, tN_b2, nd_lt, nd_nlt, nd_le, nd_nle, nd_eq, nd_ne, mN_at, mN_U, aU_ne, aU_eq, aU_ne2, aF_U3]
    rw [lp_up (g := fun _ => 0) (h := B 200) rfl, lp_up (g := fun _ => 0) (h := B 201) rfl]
theorem ml_141b {X : mX} {D : Nat} {cap : Nat × Nat} {P : mPost} {G : mG} {B : Nat → Nat → Nat} : ∀ m k, k + m = 72 → mW (mCall X D) X cap 141 P 62 [.ref 185, .int (tN k)] [] (mN (aF B 204 (fun i => if i < k then 0 else B 204 i)), RF, G, mSh) = P none (mN (aF B 204 (fun i => if i < 72 then 0 else B 204 i)), RF, G, mSh) := by
  intro m
  induction m with
  | zero =>
    intro k h
    obtain rfl : k = 72 := by omega
    rw [kh_141_62]
    simp (disch := first | omega | assumption | exact mOk_int | exact mOk_null | exact mOk_ref | (simp (disch := omega) only [aF_ef, aF_nf, aU_ne, aU_eq, aU_ne2]; first | done | omega | assumption)) only [k_141_0, k_141_1, al_0, r_push, q_putI, q_callV1, gq_0, gq_1, gq_2, gq_3, gq_4, q_bast, q_iast, is_1, il_1, ri_icge, ii_1, r_goto, r_vret, kd_0, kd_1, kd_2, kd_3, kd_4, kd_5, ln_0, ln_1, ln_2, ln_3, ln_4, ln_5, Option.some.injEq, Value.int.injEq, Value.ref.injEq, Value.long.injEq, Prod.mk.injEq, exists_eq_left', exists_eq_left, true_and, and_true, mLk, Option.any_some, mC1, Value.category, Option.toList_some, Option.toList_none, List.nil_append, List.cons_append, List.length_cons, List.length_nil, ne_eq, Nat.reduceEqDiff, not_false_eq_true, reduceCtorEq, exists_and_left, exists_and_right, Nat.reduceLeDiff, Nat.reduceAdd, and_self, exists_eq, exists_eq_right, exists_const, eq_self, exists_eq', not_true_eq_false, false_implies, true_implies, implies_true, forall_const, or_true, true_or, false_or, or_false, and_false, false_and, if_true, if_false, ite_true, ite_false, mB, mOk_int, mOk_ref, mOk_null, mOk_long, Nat.reduceLT, Nat.reduceSub, Nat.reduceMul, Nat.reduceDiv, Nat.reduceMod, Classical.not_not, ↓reduceIte, Nat.zero_add, Nat.add_zero, Nat.add_sub_cancel, Bool.false_eq_true, tN_l, tN_m1, tN_n1, tN_n8, tN_dec, tN_dec8, aF_ef, aF_nf, aF_U, tN_lt, tN_le, tN_inj, tN_add, tN_mul, tN_sub, tN_and, tN_or, tN_xor, tN_and31, tN_clamp, tN_in, tN_div, nm_rem, tN_shl, tN_shr, tN_b2, nd_lt, nd_nlt, nd_le, nd_nle, nd_eq, nd_ne, mN_at, mN_U, aU_ne, aU_eq, aU_ne2]
  | succ m ih =>
    intro k h
    rw [← ih (k + 1) (by omega), kh_141_62]
    simp (disch := first | omega | assumption | exact mOk_int | exact mOk_null | exact mOk_ref | (simp (disch := omega) only [aF_ef, aF_nf, aU_ne, aU_eq, aU_ne2]; first | done | omega | assumption)) only [k_141_0, k_141_1, al_0, r_push, q_putI, q_callV1, gq_0, gq_1, gq_2, gq_3, gq_4, q_bast, q_iast, is_1, il_1, ri_icge, ii_1, r_goto, r_vret, kd_0, kd_1, kd_2, kd_3, kd_4, kd_5, ln_0, ln_1, ln_2, ln_3, ln_4, ln_5, Option.some.injEq, Value.int.injEq, Value.ref.injEq, Value.long.injEq, Prod.mk.injEq, exists_eq_left', exists_eq_left, true_and, and_true, mLk, Option.any_some, mC1, Value.category, Option.toList_some, Option.toList_none, List.nil_append, List.cons_append, List.length_cons, List.length_nil, ne_eq, Nat.reduceEqDiff, not_false_eq_true, reduceCtorEq, exists_and_left, exists_and_right, Nat.reduceLeDiff, Nat.reduceAdd, and_self, exists_eq, exists_eq_right, exists_const, eq_self, exists_eq', not_true_eq_false, false_implies, true_implies, implies_true, forall_const, or_true, true_or, false_or, or_false, and_false, false_and, if_true, if_false, ite_true, ite_false, mB, mOk_int, mOk_ref, mOk_null, mOk_long, Nat.reduceLT, Nat.reduceSub, Nat.reduceMul, Nat.reduceDiv, Nat.reduceMod, Classical.not_not, ↓reduceIte, Nat.zero_add, Nat.add_zero, Nat.add_sub_cancel, Bool.false_eq_true, tN_l, tN_m1, tN_n1, tN_n8, tN_dec, tN_dec8, aF_ef, aF_nf, aF_U, tN_lt, tN_le, tN_inj, tN_add, tN_mul, tN_sub, tN_and, tN_or, tN_xor, tN_and31, tN_clamp, tN_in, tN_div, nm_rem, tN_shl, tN_shr, tN_b2, nd_lt, nd_nlt, nd_le, nd_nle, nd_eq, nd_ne, mN_at, mN_U, aU_ne, aU_eq, aU_ne2, vb_n]
    rw [lp_up (g := fun _ => 0) (h := B 204) rfl]
def clM (A : Nat → Nat → Nat) : Nat → Nat → Nat := aF (aF (aF (aU (aU (aU (emM (aU A 185 0 0) 0) 198 0 0) 202 0 0) 199 0 30) 200 (fun i => if i < 12 then 0 else A 200 i)) 201 (fun i => if i < 12 then 0 else A 201 i)) 204 (fun i => if i < 72 then 0 else A 204 i)
theorem m_141 {X : mX} {D : Nat} {P : mPost} {A : Nat → Nat → Nat} {G : mG} (hD : 2 ≤ D) : mCall X D 141 [.ref 185] (mN A, RF, G, mSh) P = P none (mN (clM A), RF, G, mSh) := by
  have e132 := fun P' => m_132 (X := X) (D := D - 1) (P := P') (G := G) (A := aU A 185 0 0) (h := 0) (by omega) (by omega)
  have o : ∀ c, c ≠ 185 → c ≠ 211 → c ≠ 212 → c ≠ 198 → c ≠ 202 → c ≠ 199 → aU (aU (aU (emM (aU A 185 0 0) 0) 198 0 0) 202 0 0) 199 0 30 c = A c := fun c h1 h2 h3 h4 h5 h6 => by
    rw [aU_aF, aU_aF, aU_aF, aF_nf h6, aF_nf h5, aF_nf h4, emM_o h2 h3, zA h1]
  have la := ml_141a (X := X) (D := D - 1) (cap := (mSh.length + (mAl 141).fst, mSum mSh + (mAl 141).snd)) (P := P) (G := G) (B := aU (aU (aU (emM (aU A 185 0 0) 0) 198 0 0) 202 0 0) 199 0 30) 12 0 (by omega)
  have lb := ml_141b (X := X) (D := D - 1) (cap := (mSh.length + (mAl 141).fst, mSum mSh + (mAl 141).snd)) (P := P) (G := G) (B := aF (aF (aU (aU (aU (emM (aU A 185 0 0) 0) 198 0 0) 202 0 0) 199 0 30) 200 (fun i => if i < 12 then 0 else A 200 i)) 201 (fun i => if i < 12 then 0 else A 201 i)) 72 0 (by omega)
  rw [o 200 (by decide) (by decide) (by decide) (by decide) (by decide) (by decide), o 201 (by decide) (by decide) (by decide) (by decide) (by decide) (by decide)] at la
  rw [aF_id (c := 200) (g := fun i => if i < 0 then 0 else A 200 i) (fun j => by rw [o 200 (by decide) (by decide) (by decide) (by decide) (by decide) (by decide)]; exact if_neg (by omega)), aF_id (c := 201) (g := fun i => if i < 0 then 0 else A 201 i) (fun j => by rw [o 201 (by decide) (by decide) (by decide) (by decide) (by decide) (by decide)]; exact if_neg (by omega))] at la
  rw [aF_nf (show (204 : Nat) ≠ 201 by decide), aF_nf (show (204 : Nat) ≠ 200 by decide), o 204 (by decide) (by decide) (by decide) (by decide) (by decide) (by decide)] at lb
  rw [aF_id (c := 204) (g := fun i => if i < 0 then 0 else A 204 i) (fun j => by rw [aF_nf (by decide), aF_nf (by decide), o 204 (by decide) (by decide) (by decide) (by decide) (by decide) (by decide)]; exact if_neg (by omega))] at lb
  rw [e_141 (by omega)]
  unfold clM
  generalize emM (aU A 185 0 0) 0 = C at *
  simp (disch := first | omega | assumption | exact mOk_int | exact mOk_null | exact mOk_ref | (simp (disch := omega) only [aF_ef, aF_nf, aU_ne, aU_eq, aU_ne2]; first | done | omega | assumption)) only [k_141_0, k_141_1, al_0, r_push, q_putI, q_callV1, gq_0, gq_1, gq_2, gq_3, gq_4, q_bast, q_iast, is_1, il_1, ri_icge, ii_1, r_goto, r_vret, kd_0, kd_1, kd_2, kd_3, kd_4, kd_5, ln_0, ln_1, ln_2, ln_3, ln_4, ln_5, Option.some.injEq, Value.int.injEq, Value.ref.injEq, Value.long.injEq, Prod.mk.injEq, exists_eq_left', exists_eq_left, true_and, and_true, mLk, Option.any_some, mC1, Value.category, Option.toList_some, Option.toList_none, List.nil_append, List.cons_append, List.length_cons, List.length_nil, ne_eq, Nat.reduceEqDiff, not_false_eq_true, reduceCtorEq, exists_and_left, exists_and_right, Nat.reduceLeDiff, Nat.reduceAdd, and_self, exists_eq, exists_eq_right, exists_const, eq_self, exists_eq', not_true_eq_false, false_implies, true_implies, implies_true, forall_const, or_true, true_or, false_or, or_false, and_false, false_and, if_true, if_false, ite_true, ite_false, mB, mOk_int, mOk_ref, mOk_null, mOk_long, Nat.reduceLT, Nat.reduceSub, Nat.reduceMul, Nat.reduceDiv, Nat.reduceMod, Classical.not_not, ↓reduceIte, Nat.zero_add, Nat.add_zero, Nat.add_sub_cancel, Bool.false_eq_true, tN_l, tN_m1, tN_n1, tN_n8, tN_dec, tN_dec8, aF_ef, aF_nf, aF_U, tN_lt, tN_le, tN_inj, tN_add, tN_mul, tN_sub, tN_and, tN_or, tN_xor, tN_and31, tN_clamp, tN_in, tN_div, nm_rem, tN_shl, tN_shr, tN_b2, nd_lt, nd_nlt, nd_le, nd_nle, nd_eq, nd_ne, mN_at, mN_U, aU_ne, aU_eq, aU_ne2, e132, vb_n]
  rw [la]
  exact lb
theorem roI_ne {al al2 : Nat → Nat → Bool} {x a : Nat} (h : ∀ j, j ≠ a → al a j = al2 a j) (h2 : al2 a a = false) : ∀ b, roI al x a b = roI al2 x a b
  | 0 => rfl
  | b + 1 => by
    unfold roI
    rw [roI_ne h h2 b]
    by_cases e : b = a
    · subst e
      by_cases c : (roI al2 x b b).testBit b = true ∧ al b b = true
      · rw [if_pos c, if_neg (fun z => by rw [h2] at z; cases z.2)]
        apply Nat.eq_of_testBit_eq
        intro i
        rw [or_bit]
        by_cases e : b = i
        · rw [← e, c.1, Bool.true_or]
        · rw [decide_eq_false e, Bool.or_false]
      · rw [if_neg c, if_neg (fun z => by rw [h2] at z; cases z.2)]
    · rw [h b e]
theorem roO_ne {al al2 : Nat → Nat → Bool} {n x : Nat} (h : ∀ a j, j ≠ a → al a j = al2 a j) (h2 : ∀ a, al2 a a = false) : ∀ a, roO al n x a = roO al2 n x a
  | 0 => rfl
  | a + 1 => by
    unfold roO
    rw [roO_ne h h2 a]
    exact roI_ne (h a) (h2 a) n
theorem hpI_ne {al al2 : Nat → Nat → Bool} {n x : Nat} (h : ∀ a j, j ≠ a → al a j = al2 a j) (h2 : ∀ a, al2 a a = false) : ∀ k, hpI al n x k = hpI al2 n x k
  | 0 => rfl
  | k + 1 => by
    unfold hpI
    rw [hpI_ne h h2 k]
    exact roO_ne h h2 n
theorem roI_hi {al : Nat → Nat → Bool} {n x a j : Nat} (h : ∀ j, n ≤ j → x.testBit j = false) (hj : n ≤ j) : ∀ b, b ≤ n → (roI al x a b).testBit j = false
  | 0, _ => h j hj
  | b + 1, hb => by
    unfold roI
    split
    · rw [or_bit, roI_hi h hj b (by omega), decide_eq_false (by omega)]; rfl
    · exact roI_hi h hj b (by omega)
theorem roO_hi {al : Nat → Nat → Bool} {n x : Nat} (h : ∀ j, n ≤ j → x.testBit j = false) : ∀ a j, n ≤ j → (roO al n x a).testBit j = false
  | 0, j, hj => h j hj
  | a + 1, j, hj => roI_hi (roO_hi h a) hj n (Nat.le_refl n)
theorem hpI_hi {al : Nat → Nat → Bool} {n x : Nat} (h : ∀ j, n ≤ j → x.testBit j = false) : ∀ k j, n ≤ j → (hpI al n x k).testBit j = false
  | 0, j, hj => h j hj
  | k + 1, j, hj => roO_hi (hpI_hi h k) n j hj
theorem fsn_mono {x y : Nat} (h : ∀ j, x.testBit j = true → y.testBit j = true) : ∀ n, fsn x n ≤ fsn y n
  | 0 => Nat.le_refl _
  | n + 1 => by
    have := fsn_mono h n
    unfold fsn
    by_cases c : x.testBit n = true
    · rw [if_pos c, if_pos (h n c)]; omega
    · rw [if_neg c]; omega
theorem fsn_lt {x y : Nat} (h : ∀ j, x.testBit j = true → y.testBit j = true) {i : Nat} (h1 : x.testBit i = false) (h2 : y.testBit i = true) : ∀ n, i < n → fsn x n < fsn y n
  | 0, hi => absurd hi (by omega)
  | n + 1, hi => by
    unfold fsn
    by_cases e : i = n
    · subst e
      have := fsn_mono h i
      rw [h1, if_neg (by decide), if_pos h2]; omega
    · have := fsn_lt h h1 h2 n (by omega)
      by_cases c : x.testBit n = true
      · rw [if_pos c, if_pos (h n c)]; omega
      · rw [if_neg c]; omega
/-- after n rounds nothing comes any more -/
theorem hp_fix {al : Nat → Nat → Bool} {n x a : Nat} (hx : ∀ j, n ≤ j → x.testBit j = false) (ha : a < n) (h0 : x.testBit a = true) : ∀ k, hpI al n x (k + 1) = hpI al n x k ∨ k + 1 ≤ fsn (hpI al n x k) n := by
  intro k
  induction k with
  | zero =>
    right
    have : fsn 0 n < fsn x n := fsn_lt (fun j hj => by rw [Nat.zero_testBit] at hj; cases hj) (i := a) (Nat.zero_testBit a) h0 n ha
    show 0 + 1 ≤ fsn x n
    omega
  | succ k ih =>
    rcases ih with ih | ih
    · left
      show roO al n (hpI al n x (k + 1)) n = roO al n (hpI al n x k) n
      rw [ih]
    · by_cases e : hpI al n x (k + 1) = hpI al n x k
      · left
        show roO al n (hpI al n x (k + 1)) n = roO al n (hpI al n x k) n
        rw [e]
      · right
        have sub : ∀ j, (hpI al n x k).testBit j = true → (hpI al n x (k + 1)).testBit j = true := fun j hj => roO_sub hj n
        by_cases c : ∃ j, (hpI al n x k).testBit j = false ∧ (hpI al n x (k + 1)).testBit j = true
        · obtain ⟨j, j1, j2⟩ := c
          have hj : j < n := by
            by_cases z : j < n
            · exact z
            · rw [hpI_hi hx (k + 1) j (by omega)] at j2; cases j2
          have := fsn_lt sub j1 j2 n hj
          omega
        · exfalso
          apply e
          apply Nat.eq_of_testBit_eq
          intro j
          by_cases z : (hpI al n x k).testBit j = true
          · rw [z, sub j z]
          · have z' : (hpI al n x k).testBit j = false := by simpa using z
            rw [z']
            by_cases y : (hpI al n x (k + 1)).testBit j = true
            · exact absurd ⟨j, z', y⟩ c
            · simpa using y
theorem hp_end {al : Nat → Nat → Bool} {n x a : Nat} (hx : ∀ j, n ≤ j → x.testBit j = false) (ha : a < n) (h0 : x.testBit a = true) : hpI al n x (n + 1) = hpI al n x n := by
  rcases hp_fix (al := al) hx ha h0 n with h | h
  · exact h
  · have := fsn_le (f := hpI al n x n) n
    omega
theorem hp_stay {al : Nat → Nat → Bool} {n x k : Nat} (h : hpI al n x (k + 1) = hpI al n x k) : ∀ m, hpI al n x (k + m) = hpI al n x k
  | 0 => rfl
  | m + 1 => by
    show roO al n (hpI al n x (k + m)) n = _
    rw [hp_stay h m]
    exact h
def al2 (mk : Nat → Nat) (i j : Nat) : Bool := alb (mk i) (mk j) && !decide (i = j)
theorem al2_t {mk : Nat → Nat} {i j : Nat} : (al2 mk i j = true) = (alb (mk i) (mk j) = true ∧ ¬ i = j) := by
  unfold al2
  rw [Bool.and_eq_true, Bool.not_eq_true', decide_eq_false_iff_not]
theorem or_0 {x : Nat} : x ||| 0 = x := Nat.or_zero x
theorem ml_146b {X : mX} {D : Nat} {cap : Nat × Nat} {P : mPost} {G : mG} {A : Nat → Nat → Nat} {x y a q : Nat} (hD : 1 ≤ D) (hn : A 193 0 ≤ 12) (ha : a < A 193 0) (hm : ∀ i, i < A 193 0 → A 196 i ≤ 999) (hx : x < 4096) : ∀ m b, b + m = A 193 0 → mW (mCall X D) X cap 146 P 45 [.ref 185, .int (tN q), .int (tN (roI (al2 (A 196)) x a b)), .int (tN y), .int (tN a), .int (tN b)] [] (mN A, RF, G, mSh) = mW (mCall X D) X cap 146 P 31 [.ref 185, .int (tN q), .int (tN (roI (al2 (A 196)) x a (A 193 0))), .int (tN y), .int (tN (a + 1)), .int (tN (A 193 0))] [] (mN A, RF, G, mSh) := by
  intro m
  induction m with
  | zero =>
    intro b h
    obtain rfl : b = A 193 0 := by omega
    rw [kh_146_45]
    simp (disch := first | omega | assumption | exact mOk_int | exact mOk_null | exact mOk_ref | (simp (disch := omega) only [aF_ef, aF_nf, aU_ne, aU_eq, aU_ne2]; first | done | omega | assumption)) only [k_146_0, k_146_1, al_0, r_push, q_putI, il_1, q_callV1, ri_ifne, r_iret, r_ishl, is_2, is_3, il_3, il_2, ri_iceq, is_4, il_4, gq_0, gq_1, gq_2, gq_3, gq_4, q_iald, ri_icge, is_5, il_5, r_ishr, r_iand, ri_ifeq, q_callV2, r_goto, r_ior, ii_5, ii_4, kd_0, kd_1, kd_2, kd_3, kd_4, kd_5, ln_0, ln_1, ln_2, ln_3, ln_4, ln_5, Option.some.injEq, Value.int.injEq, Value.ref.injEq, Value.long.injEq, Prod.mk.injEq, exists_eq_left', exists_eq_left, true_and, and_true, mLk, Option.any_some, mC1, Value.category, Option.toList_some, Option.toList_none, List.nil_append, List.cons_append, List.length_cons, List.length_nil, ne_eq, Nat.reduceEqDiff, not_false_eq_true, reduceCtorEq, exists_and_left, exists_and_right, Nat.reduceLeDiff, Nat.reduceAdd, and_self, exists_eq, exists_eq_right, exists_const, eq_self, exists_eq', not_true_eq_false, false_implies, true_implies, implies_true, forall_const, or_true, true_or, false_or, or_false, and_false, false_and, if_true, if_false, ite_true, ite_false, mB, mOk_int, mOk_ref, mOk_null, mOk_long, Nat.reduceLT, Nat.reduceSub, Nat.reduceMul, Nat.reduceDiv, Nat.reduceMod, Classical.not_not, ↓reduceIte, Nat.zero_add, Nat.add_zero, Nat.add_sub_cancel, Bool.false_eq_true, tN_l, tN_m1, tN_n1, tN_n8, tN_dec, tN_dec8, aF_ef, aF_nf, aF_U, tN_lt, tN_le, tN_inj, tN_add, tN_mul, tN_sub, tN_and, tN_or, tN_xor, tN_and31, tN_clamp, tN_in, tN_div, nm_rem, tN_shl, tN_shr, tN_b2, nd_lt, nd_nlt, nd_le, nd_nle, nd_eq, nd_ne, mN_at, mN_U, aU_ne, aU_eq, aU_ne2]
  | succ m ih =>
    intro b h
    have ih' := ih (b + 1) (by omega)
    have m1 := hm a ha
    have m2 := hm b (by omega)
    have hl := roI_lt (al := al2 (A 196)) (a := a) hx b (by omega)
    have e147 := fun P' => m_147 (X := X) (D := D) (P := P') (G := G) (A := A) (a := a) (b := b) hD (by omega) (by omega) m1 m2
    simp only [← al2_t] at e147
    rw [kh_146_45]
    by_cases c1 : (roI (al2 (A 196)) x a b).testBit a = true
    · by_cases c2 : al2 (A 196) a b = true
      · simp only [roI, c1, c2, and_self, if_true] at ih'
        simp (disch := first | omega | assumption | exact mOk_int | exact mOk_null | exact mOk_ref | (simp (disch := omega) only [aF_ef, aF_nf, aU_ne, aU_eq, aU_ne2]; first | done | omega | assumption)) only [k_146_0, k_146_1, al_0, r_push, q_putI, il_1, q_callV1, ri_ifne, r_iret, r_ishl, is_2, is_3, il_3, il_2, ri_iceq, is_4, il_4, gq_0, gq_1, gq_2, gq_3, gq_4, q_iald, ri_icge, is_5, il_5, r_ishr, r_iand, ri_ifeq, q_callV2, r_goto, r_ior, ii_5, ii_4, kd_0, kd_1, kd_2, kd_3, kd_4, kd_5, ln_0, ln_1, ln_2, ln_3, ln_4, ln_5, Option.some.injEq, Value.int.injEq, Value.ref.injEq, Value.long.injEq, Prod.mk.injEq, exists_eq_left', exists_eq_left, true_and, and_true, mLk, Option.any_some, mC1, Value.category, Option.toList_some, Option.toList_none, List.nil_append, List.cons_append, List.length_cons, List.length_nil, ne_eq, Nat.reduceEqDiff, not_false_eq_true, reduceCtorEq, exists_and_left, exists_and_right, Nat.reduceLeDiff, Nat.reduceAdd, and_self, exists_eq, exists_eq_right, exists_const, eq_self, exists_eq', not_true_eq_false, false_implies, true_implies, implies_true, forall_const, or_true, true_or, false_or, or_false, and_false, false_and, if_true, if_false, ite_true, ite_false, mB, mOk_int, mOk_ref, mOk_null, mOk_long, Nat.reduceLT, Nat.reduceSub, Nat.reduceMul, Nat.reduceDiv, Nat.reduceMod, Classical.not_not, ↓reduceIte, Nat.zero_add, Nat.add_zero, Nat.add_sub_cancel, Bool.false_eq_true, tN_l, tN_m1, tN_n1, tN_n8, tN_dec, tN_dec8, aF_ef, aF_nf, aF_U, tN_lt, tN_le, tN_inj, tN_add, tN_mul, tN_sub, tN_and, tN_or, tN_xor, tN_and31, tN_clamp, tN_in, tN_div, nm_rem, tN_shl, tN_shr, tN_b2, nd_lt, nd_nlt, nd_le, nd_nle, nd_eq, nd_ne, mN_at, mN_U, aU_ne, aU_eq, aU_ne2, bit_n, c1, c2, e147]
        exact ih'
      · simp only [roI, c2, Bool.false_eq_true, and_false, if_false] at ih'
        simp (disch := first | omega | assumption | exact mOk_int | exact mOk_null | exact mOk_ref | (simp (disch := omega) only [aF_ef, aF_nf, aU_ne, aU_eq, aU_ne2]; first | done | omega | assumption)) only [k_146_0, k_146_1, al_0, r_push, q_putI, il_1, q_callV1, ri_ifne, r_iret, r_ishl, is_2, is_3, il_3, il_2, ri_iceq, is_4, il_4, gq_0, gq_1, gq_2, gq_3, gq_4, q_iald, ri_icge, is_5, il_5, r_ishr, r_iand, ri_ifeq, q_callV2, r_goto, r_ior, ii_5, ii_4, kd_0, kd_1, kd_2, kd_3, kd_4, kd_5, ln_0, ln_1, ln_2, ln_3, ln_4, ln_5, Option.some.injEq, Value.int.injEq, Value.ref.injEq, Value.long.injEq, Prod.mk.injEq, exists_eq_left', exists_eq_left, true_and, and_true, mLk, Option.any_some, mC1, Value.category, Option.toList_some, Option.toList_none, List.nil_append, List.cons_append, List.length_cons, List.length_nil, ne_eq, Nat.reduceEqDiff, not_false_eq_true, reduceCtorEq, exists_and_left, exists_and_right, Nat.reduceLeDiff, Nat.reduceAdd, and_self, exists_eq, exists_eq_right, exists_const, eq_self, exists_eq', not_true_eq_false, false_implies, true_implies, implies_true, forall_const, or_true, true_or, false_or, or_false, and_false, false_and, if_true, if_false, ite_true, ite_false, mB, mOk_int, mOk_ref, mOk_null, mOk_long, Nat.reduceLT, Nat.reduceSub, Nat.reduceMul, Nat.reduceDiv, Nat.reduceMod, Classical.not_not, ↓reduceIte, Nat.zero_add, Nat.add_zero, Nat.add_sub_cancel, Bool.false_eq_true, tN_l, tN_m1, tN_n1, tN_n8, tN_dec, tN_dec8, aF_ef, aF_nf, aF_U, tN_lt, tN_le, tN_inj, tN_add, tN_mul, tN_sub, tN_and, tN_or, tN_xor, tN_and31, tN_clamp, tN_in, tN_div, nm_rem, tN_shl, tN_shr, tN_b2, nd_lt, nd_nlt, nd_le, nd_nle, nd_eq, nd_ne, mN_at, mN_U, aU_ne, aU_eq, aU_ne2, bit_n, c1, c2, e147, or_0]
        exact ih'
    · simp only [roI, c1, Bool.false_eq_true, false_and, if_false] at ih'
      simp (disch := first | omega | assumption | exact mOk_int | exact mOk_null | exact mOk_ref | (simp (disch := omega) only [aF_ef, aF_nf, aU_ne, aU_eq, aU_ne2]; first | done | omega | assumption)) only [k_146_0, k_146_1, al_0, r_push, q_putI, il_1, q_callV1, ri_ifne, r_iret, r_ishl, is_2, is_3, il_3, il_2, ri_iceq, is_4, il_4, gq_0, gq_1, gq_2, gq_3, gq_4, q_iald, ri_icge, is_5, il_5, r_ishr, r_iand, ri_ifeq, q_callV2, r_goto, r_ior, ii_5, ii_4, kd_0, kd_1, kd_2, kd_3, kd_4, kd_5, ln_0, ln_1, ln_2, ln_3, ln_4, ln_5, Option.some.injEq, Value.int.injEq, Value.ref.injEq, Value.long.injEq, Prod.mk.injEq, exists_eq_left', exists_eq_left, true_and, and_true, mLk, Option.any_some, mC1, Value.category, Option.toList_some, Option.toList_none, List.nil_append, List.cons_append, List.length_cons, List.length_nil, ne_eq, Nat.reduceEqDiff, not_false_eq_true, reduceCtorEq, exists_and_left, exists_and_right, Nat.reduceLeDiff, Nat.reduceAdd, and_self, exists_eq, exists_eq_right, exists_const, eq_self, exists_eq', not_true_eq_false, false_implies, true_implies, implies_true, forall_const, or_true, true_or, false_or, or_false, and_false, false_and, if_true, if_false, ite_true, ite_false, mB, mOk_int, mOk_ref, mOk_null, mOk_long, Nat.reduceLT, Nat.reduceSub, Nat.reduceMul, Nat.reduceDiv, Nat.reduceMod, Classical.not_not, ↓reduceIte, Nat.zero_add, Nat.add_zero, Nat.add_sub_cancel, Bool.false_eq_true, tN_l, tN_m1, tN_n1, tN_n8, tN_dec, tN_dec8, aF_ef, aF_nf, aF_U, tN_lt, tN_le, tN_inj, tN_add, tN_mul, tN_sub, tN_and, tN_or, tN_xor, tN_and31, tN_clamp, tN_in, tN_div, nm_rem, tN_shl, tN_shr, tN_b2, nd_lt, nd_nlt, nd_le, nd_nle, nd_eq, nd_ne, mN_at, mN_U, aU_ne, aU_eq, aU_ne2, bit_n, c1, or_0]
      exact ih'
theorem ml_146a {X : mX} {D : Nat} {cap : Nat × Nat} {P : mPost} {G : mG} {A : Nat → Nat → Nat} {x y q : Nat} (hD : 1 ≤ D) (hn : A 193 0 ≤ 12) (hm : ∀ i, i < A 193 0 → A 196 i ≤ 999) (hx : x < 4096) : ∀ m k u, k + m = A 193 0 → mOk u = true → ∃ v, mOk v = true ∧ mW (mCall X D) X cap 146 P 31 [.ref 185, .int (tN q), .int (tN (roO (al2 (A 196)) (A 193 0) x k)), .int (tN y), .int (tN k), u] [] (mN A, RF, G, mSh) = mW (mCall X D) X cap 146 P 21 [.ref 185, .int (tN q), .int (tN (roO (al2 (A 196)) (A 193 0) x (A 193 0))), .int (tN y), .int (tN (A 193 0)), v] [] (mN A, RF, G, mSh) := by
  intro m
  induction m with
  | zero =>
    intro k u h gu
    obtain rfl : k = A 193 0 := by omega
    refine ⟨u, gu, ?_⟩
    rw [kh_146_31]
    simp (disch := first | omega | assumption | exact mOk_int | exact mOk_null | exact mOk_ref | (simp (disch := omega) only [aF_ef, aF_nf, aU_ne, aU_eq, aU_ne2]; first | done | omega | assumption)) only [k_146_0, k_146_1, al_0, r_push, q_putI, il_1, q_callV1, ri_ifne, r_iret, r_ishl, is_2, is_3, il_3, il_2, ri_iceq, is_4, il_4, gq_0, gq_1, gq_2, gq_3, gq_4, q_iald, ri_icge, is_5, il_5, r_ishr, r_iand, ri_ifeq, q_callV2, r_goto, r_ior, ii_5, ii_4, kd_0, kd_1, kd_2, kd_3, kd_4, kd_5, ln_0, ln_1, ln_2, ln_3, ln_4, ln_5, Option.some.injEq, Value.int.injEq, Value.ref.injEq, Value.long.injEq, Prod.mk.injEq, exists_eq_left', exists_eq_left, true_and, and_true, mLk, Option.any_some, mC1, Value.category, Option.toList_some, Option.toList_none, List.nil_append, List.cons_append, List.length_cons, List.length_nil, ne_eq, Nat.reduceEqDiff, not_false_eq_true, reduceCtorEq, exists_and_left, exists_and_right, Nat.reduceLeDiff, Nat.reduceAdd, and_self, exists_eq, exists_eq_right, exists_const, eq_self, exists_eq', not_true_eq_false, false_implies, true_implies, implies_true, forall_const, or_true, true_or, false_or, or_false, and_false, false_and, if_true, if_false, ite_true, ite_false, mB, mOk_int, mOk_ref, mOk_null, mOk_long, Nat.reduceLT, Nat.reduceSub, Nat.reduceMul, Nat.reduceDiv, Nat.reduceMod, Classical.not_not, ↓reduceIte, Nat.zero_add, Nat.add_zero, Nat.add_sub_cancel, Bool.false_eq_true, tN_l, tN_m1, tN_n1, tN_n8, tN_dec, tN_dec8, aF_ef, aF_nf, aF_U, tN_lt, tN_le, tN_inj, tN_add, tN_mul, tN_sub, tN_and, tN_or, tN_xor, tN_and31, tN_clamp, tN_in, tN_div, nm_rem, tN_shl, tN_shr, tN_b2, nd_lt, nd_nlt, nd_le, nd_nle, nd_eq, nd_ne, mN_at, mN_U, aU_ne, aU_eq, aU_ne2]
  | succ m ih =>
    intro k u h gu
    have lb := ml_146b (X := X) (D := D) (cap := cap) (P := P) (G := G) (A := A) (x := roO (al2 (A 196)) (A 193 0) x k) (y := y) (a := k) (q := q) hD hn (by omega) hm (roO_lt hx hn k) (A 193 0) 0 (by omega)
    obtain ⟨v, g1, g2⟩ := ih (k + 1) (.int (tN (A 193 0))) (by omega) mOk_int
    refine ⟨v, g1, ?_⟩
    rw [kh_146_31]
    simp (disch := first | omega | assumption | exact mOk_int | exact mOk_null | exact mOk_ref | (simp (disch := omega) only [aF_ef, aF_nf, aU_ne, aU_eq, aU_ne2]; first | done | omega | assumption)) only [k_146_0, k_146_1, al_0, r_push, q_putI, il_1, q_callV1, ri_ifne, r_iret, r_ishl, is_2, is_3, il_3, il_2, ri_iceq, is_4, il_4, gq_0, gq_1, gq_2, gq_3, gq_4, q_iald, ri_icge, is_5, il_5, r_ishr, r_iand, ri_ifeq, q_callV2, r_goto, r_ior, ii_5, ii_4, kd_0, kd_1, kd_2, kd_3, kd_4, kd_5, ln_0, ln_1, ln_2, ln_3, ln_4, ln_5, Option.some.injEq, Value.int.injEq, Value.ref.injEq, Value.long.injEq, Prod.mk.injEq, exists_eq_left', exists_eq_left, true_and, and_true, mLk, Option.any_some, mC1, Value.category, Option.toList_some, Option.toList_none, List.nil_append, List.cons_append, List.length_cons, List.length_nil, ne_eq, Nat.reduceEqDiff, not_false_eq_true, reduceCtorEq, exists_and_left, exists_and_right, Nat.reduceLeDiff, Nat.reduceAdd, and_self, exists_eq, exists_eq_right, exists_const, eq_self, exists_eq', not_true_eq_false, false_implies, true_implies, implies_true, forall_const, or_true, true_or, false_or, or_false, and_false, false_and, if_true, if_false, ite_true, ite_false, mB, mOk_int, mOk_ref, mOk_null, mOk_long, Nat.reduceLT, Nat.reduceSub, Nat.reduceMul, Nat.reduceDiv, Nat.reduceMod, Classical.not_not, ↓reduceIte, Nat.zero_add, Nat.add_zero, Nat.add_sub_cancel, Bool.false_eq_true, tN_l, tN_m1, tN_n1, tN_n8, tN_dec, tN_dec8, aF_ef, aF_nf, aF_U, tN_lt, tN_le, tN_inj, tN_add, tN_mul, tN_sub, tN_and, tN_or, tN_xor, tN_and31, tN_clamp, tN_in, tN_div, nm_rem, tN_shl, tN_shr, tN_b2, nd_lt, nd_nlt, nd_le, nd_nle, nd_eq, nd_ne, mN_at, mN_U, aU_ne, aU_eq, aU_ne2]
    exact lb.trans g2
theorem ml_146l {X : mX} {D : Nat} {cap : Nat × Nat} {P : mPost} {G : mG} {A : Nat → Nat → Nat} {x y q : Nat} {u : Value} (hx : x < 4096) (h0 : x ≠ 0) : ∀ m k, k + m = lob x → mW (mCall X D) X cap 146 P 105 [.ref 185, .int (tN q), .int (tN x), .int (tN y), .int (tN k), u] [] (mN A, RF, G, mSh) = P (some (.int (tN (lob x)))) (mN A, RF, G, mSh) := by
  obtain ⟨l1, l2, l3⟩ := loC_at hx h0
  intro m
  induction m with
  | zero =>
    intro k e
    obtain rfl : k = lob x := by omega
    have b1 : x.testBit (lob x) = true := by
      rw [Nat.testBit_eq_decide_div_mod_eq, ← Nat.shiftRight_eq_div_pow, l1]
      rfl
    rw [kh_146_105]
    generalize lob x = l at *
    simp (disch := first | omega | assumption | exact mOk_int | exact mOk_null | exact mOk_ref | (simp (disch := omega) only [aF_ef, aF_nf, aU_ne, aU_eq, aU_ne2]; first | done | omega | assumption)) only [k_146_0, k_146_1, al_0, r_push, q_putI, il_1, q_callV1, ri_ifne, r_iret, r_ishl, is_2, is_3, il_3, il_2, ri_iceq, is_4, il_4, gq_0, gq_1, gq_2, gq_3, gq_4, q_iald, ri_icge, is_5, il_5, r_ishr, r_iand, ri_ifeq, q_callV2, r_goto, r_ior, ii_5, ii_4, kd_0, kd_1, kd_2, kd_3, kd_4, kd_5, ln_0, ln_1, ln_2, ln_3, ln_4, ln_5, Option.some.injEq, Value.int.injEq, Value.ref.injEq, Value.long.injEq, Prod.mk.injEq, exists_eq_left', exists_eq_left, true_and, and_true, mLk, Option.any_some, mC1, Value.category, Option.toList_some, Option.toList_none, List.nil_append, List.cons_append, List.length_cons, List.length_nil, ne_eq, Nat.reduceEqDiff, not_false_eq_true, reduceCtorEq, exists_and_left, exists_and_right, Nat.reduceLeDiff, Nat.reduceAdd, and_self, exists_eq, exists_eq_right, exists_const, eq_self, exists_eq', not_true_eq_false, false_implies, true_implies, implies_true, forall_const, or_true, true_or, false_or, or_false, and_false, false_and, if_true, if_false, ite_true, ite_false, mB, mOk_int, mOk_ref, mOk_null, mOk_long, Nat.reduceLT, Nat.reduceSub, Nat.reduceMul, Nat.reduceDiv, Nat.reduceMod, Classical.not_not, ↓reduceIte, Nat.zero_add, Nat.add_zero, Nat.add_sub_cancel, Bool.false_eq_true, tN_l, tN_m1, tN_n1, tN_n8, tN_dec, tN_dec8, aF_ef, aF_nf, aF_U, tN_lt, tN_le, tN_inj, tN_add, tN_mul, tN_sub, tN_and, tN_or, tN_xor, tN_and31, tN_clamp, tN_in, tN_div, nm_rem, tN_shl, tN_shr, tN_b2, nd_lt, nd_nlt, nd_le, nd_nle, nd_eq, nd_ne, mN_at, mN_U, aU_ne, aU_eq, aU_ne2, bit_n, b1]
  | succ m ih =>
    intro k e
    have ih' := ih (k + 1) (by omega)
    have b1 : x.testBit k = false := by
      have : (x % 2 ^ lob x).testBit k = (decide (k < lob x) && x.testBit k) := Nat.testBit_mod_two_pow x (lob x) k
      rw [l2, Nat.zero_testBit, decide_eq_true (by omega), Bool.true_and] at this
      exact this.symm
    rw [kh_146_105]
    simp (disch := first | omega | assumption | exact mOk_int | exact mOk_null | exact mOk_ref | (simp (disch := omega) only [aF_ef, aF_nf, aU_ne, aU_eq, aU_ne2]; first | done | omega | assumption)) only [k_146_0, k_146_1, al_0, r_push, q_putI, il_1, q_callV1, ri_ifne, r_iret, r_ishl, is_2, is_3, il_3, il_2, ri_iceq, is_4, il_4, gq_0, gq_1, gq_2, gq_3, gq_4, q_iald, ri_icge, is_5, il_5, r_ishr, r_iand, ri_ifeq, q_callV2, r_goto, r_ior, ii_5, ii_4, kd_0, kd_1, kd_2, kd_3, kd_4, kd_5, ln_0, ln_1, ln_2, ln_3, ln_4, ln_5, Option.some.injEq, Value.int.injEq, Value.ref.injEq, Value.long.injEq, Prod.mk.injEq, exists_eq_left', exists_eq_left, true_and, and_true, mLk, Option.any_some, mC1, Value.category, Option.toList_some, Option.toList_none, List.nil_append, List.cons_append, List.length_cons, List.length_nil, ne_eq, Nat.reduceEqDiff, not_false_eq_true, reduceCtorEq, exists_and_left, exists_and_right, Nat.reduceLeDiff, Nat.reduceAdd, and_self, exists_eq, exists_eq_right, exists_const, eq_self, exists_eq', not_true_eq_false, false_implies, true_implies, implies_true, forall_const, or_true, true_or, false_or, or_false, and_false, false_and, if_true, if_false, ite_true, ite_false, mB, mOk_int, mOk_ref, mOk_null, mOk_long, Nat.reduceLT, Nat.reduceSub, Nat.reduceMul, Nat.reduceDiv, Nat.reduceMod, Classical.not_not, ↓reduceIte, Nat.zero_add, Nat.add_zero, Nat.add_sub_cancel, Bool.false_eq_true, tN_l, tN_m1, tN_n1, tN_n8, tN_dec, tN_dec8, aF_ef, aF_nf, aF_U, tN_lt, tN_le, tN_inj, tN_add, tN_mul, tN_sub, tN_and, tN_or, tN_xor, tN_and31, tN_clamp, tN_in, tN_div, nm_rem, tN_shl, tN_shr, tN_b2, nd_lt, nd_nlt, nd_le, nd_nle, nd_eq, nd_ne, mN_at, mN_U, aU_ne, aU_eq, aU_ne2, bit_n, b1]
    exact ih'
theorem ml_146 {X : mX} {D : Nat} {cap : Nat × Nat} {P : mPost} {G : mG} {A : Nat → Nat → Nat} {x a q : Nat} (hD : 1 ≤ D) (hn : A 193 0 ≤ 12) (hm : ∀ i, i < A 193 0 → A 196 i ≤ 999) (hx : x < 4096) (hhi : ∀ j, A 193 0 ≤ j → x.testBit j = false) (ha : a < A 193 0) (h0 : x.testBit a = true) : ∀ m k u4 u5, k + m = A 193 0 → mOk u4 = true → mOk u5 = true → mW (mCall X D) X cap 146 P 21 [.ref 185, .int (tN q), .int (tN (hpI (al2 (A 196)) (A 193 0) x (k + 1))), .int (tN (hpI (al2 (A 196)) (A 193 0) x k)), u4, u5] [] (mN A, RF, G, mSh) = P (some (.int (tN (lob (hpI (al2 (A 196)) (A 193 0) x (A 193 0)))))) (mN A, RF, G, mSh) := by
  have fin : ∀ k u4 u5, k ≤ A 193 0 → mOk u4 = true → hpI (al2 (A 196)) (A 193 0) x (k + 1) = hpI (al2 (A 196)) (A 193 0) x k → mW (mCall X D) X cap 146 P 21 [.ref 185, .int (tN q), .int (tN (hpI (al2 (A 196)) (A 193 0) x (k + 1))), .int (tN (hpI (al2 (A 196)) (A 193 0) x k)), u4, u5] [] (mN A, RF, G, mSh) = P (some (.int (tN (lob (hpI (al2 (A 196)) (A 193 0) x (A 193 0)))))) (mN A, RF, G, mSh) := by
    intro k u4 u5 hk g4 e
    have es := hp_stay e (A 193 0 - k)
    rw [show k + (A 193 0 - k) = A 193 0 by omega] at es
    rw [e, es]
    have b1 := hpI_sub (al := al2 (A 196)) (n := A 193 0) h0 k
    have b2 := hpI_lt (al := al2 (A 196)) hx hn k
    generalize hpI (al2 (A 196)) (A 193 0) x k = z at *
    have ll := ml_146l (X := X) (D := D) (cap := cap) (P := P) (G := G) (A := A) (x := z) (y := z) (q := q) (u := u5) b2 (fun y => by rw [y, Nat.zero_testBit] at b1; cases b1) (lob z) 0 (by omega)
    rw [kh_146_21]
    simp (disch := first | omega | assumption | exact mOk_int | exact mOk_null | exact mOk_ref | (simp (disch := omega) only [aF_ef, aF_nf, aU_ne, aU_eq, aU_ne2]; first | done | omega | assumption)) only [k_146_0, k_146_1, al_0, r_push, q_putI, il_1, q_callV1, ri_ifne, r_iret, r_ishl, is_2, is_3, il_3, il_2, ri_iceq, is_4, il_4, gq_0, gq_1, gq_2, gq_3, gq_4, q_iald, ri_icge, is_5, il_5, r_ishr, r_iand, ri_ifeq, q_callV2, r_goto, r_ior, ii_5, ii_4, kd_0, kd_1, kd_2, kd_3, kd_4, kd_5, ln_0, ln_1, ln_2, ln_3, ln_4, ln_5, Option.some.injEq, Value.int.injEq, Value.ref.injEq, Value.long.injEq, Prod.mk.injEq, exists_eq_left', exists_eq_left, true_and, and_true, mLk, Option.any_some, mC1, Value.category, Option.toList_some, Option.toList_none, List.nil_append, List.cons_append, List.length_cons, List.length_nil, ne_eq, Nat.reduceEqDiff, not_false_eq_true, reduceCtorEq, exists_and_left, exists_and_right, Nat.reduceLeDiff, Nat.reduceAdd, and_self, exists_eq, exists_eq_right, exists_const, eq_self, exists_eq', not_true_eq_false, false_implies, true_implies, implies_true, forall_const, or_true, true_or, false_or, or_false, and_false, false_and, if_true, if_false, ite_true, ite_false, mB, mOk_int, mOk_ref, mOk_null, mOk_long, Nat.reduceLT, Nat.reduceSub, Nat.reduceMul, Nat.reduceDiv, Nat.reduceMod, Classical.not_not, ↓reduceIte, Nat.zero_add, Nat.add_zero, Nat.add_sub_cancel, Bool.false_eq_true, tN_l, tN_m1, tN_n1, tN_n8, tN_dec, tN_dec8, aF_ef, aF_nf, aF_U, tN_lt, tN_le, tN_inj, tN_add, tN_mul, tN_sub, tN_and, tN_or, tN_xor, tN_and31, tN_clamp, tN_in, tN_div, nm_rem, tN_shl, tN_shr, tN_b2, nd_lt, nd_nlt, nd_le, nd_nle, nd_eq, nd_ne, mN_at, mN_U, aU_ne, aU_eq, aU_ne2]
    exact ll
  intro m
  induction m with
  | zero =>
    intro k u4 u5 e g4 g5
    obtain rfl : k = A 193 0 := by omega
    exact fin _ u4 u5 (Nat.le_refl _) g4 (hp_end hhi ha h0)
  | succ m ih =>
    intro k u4 u5 e g4 g5
    by_cases c : hpI (al2 (A 196)) (A 193 0) x (k + 1) = hpI (al2 (A 196)) (A 193 0) x k
    · exact fin k u4 u5 (by omega) g4 c
    · obtain ⟨v, g1, g2⟩ := ml_146a (X := X) (D := D) (cap := cap) (P := P) (G := G) (A := A) (x := hpI (al2 (A 196)) (A 193 0) x (k + 1)) (y := hpI (al2 (A 196)) (A 193 0) x (k + 1)) (q := q) hD hn hm (hpI_lt hx hn (k + 1)) (A 193 0) 0 u5 (by omega) g5
      have ih' := ih (k + 1) (.int (tN (A 193 0))) v (by omega) mOk_int g1
      have b1 := hpI_lt (al := al2 (A 196)) hx hn (k + 1)
      have b2 := hpI_lt (al := al2 (A 196)) hx hn k
      rw [show hpI (al2 (A 196)) (A 193 0) x (k + 1 + 1) = roO (al2 (A 196)) (A 193 0) (hpI (al2 (A 196)) (A 193 0) x (k + 1)) (A 193 0) from rfl] at ih'
      rw [show roO (al2 (A 196)) (A 193 0) (hpI (al2 (A 196)) (A 193 0) x (k + 1)) 0 = hpI (al2 (A 196)) (A 193 0) x (k + 1) from rfl] at g2
      rw [kh_146_21]
      generalize hpI (al2 (A 196)) (A 193 0) x (k + 1) = z at *
      generalize hpI (al2 (A 196)) (A 193 0) x k = z2 at *
      have c' : ¬ z2 = z := fun y => c y.symm
      simp (disch := first | omega | assumption | exact mOk_int | exact mOk_null | exact mOk_ref | (simp (disch := omega) only [aF_ef, aF_nf, aU_ne, aU_eq, aU_ne2]; first | done | omega | assumption)) only [k_146_0, k_146_1, al_0, r_push, q_putI, il_1, q_callV1, ri_ifne, r_iret, r_ishl, is_2, is_3, il_3, il_2, ri_iceq, is_4, il_4, gq_0, gq_1, gq_2, gq_3, gq_4, q_iald, ri_icge, is_5, il_5, r_ishr, r_iand, ri_ifeq, q_callV2, r_goto, r_ior, ii_5, ii_4, kd_0, kd_1, kd_2, kd_3, kd_4, kd_5, ln_0, ln_1, ln_2, ln_3, ln_4, ln_5, Option.some.injEq, Value.int.injEq, Value.ref.injEq, Value.long.injEq, Prod.mk.injEq, exists_eq_left', exists_eq_left, true_and, and_true, mLk, Option.any_some, mC1, Value.category, Option.toList_some, Option.toList_none, List.nil_append, List.cons_append, List.length_cons, List.length_nil, ne_eq, Nat.reduceEqDiff, not_false_eq_true, reduceCtorEq, exists_and_left, exists_and_right, Nat.reduceLeDiff, Nat.reduceAdd, and_self, exists_eq, exists_eq_right, exists_const, eq_self, exists_eq', not_true_eq_false, false_implies, true_implies, implies_true, forall_const, or_true, true_or, false_or, or_false, and_false, false_and, if_true, if_false, ite_true, ite_false, mB, mOk_int, mOk_ref, mOk_null, mOk_long, Nat.reduceLT, Nat.reduceSub, Nat.reduceMul, Nat.reduceDiv, Nat.reduceMod, Classical.not_not, ↓reduceIte, Nat.zero_add, Nat.add_zero, Nat.add_sub_cancel, Bool.false_eq_true, tN_l, tN_m1, tN_n1, tN_n8, tN_dec, tN_dec8, aF_ef, aF_nf, aF_U, tN_lt, tN_le, tN_inj, tN_add, tN_mul, tN_sub, tN_and, tN_or, tN_xor, tN_and31, tN_clamp, tN_in, tN_div, nm_rem, tN_shl, tN_shr, tN_b2, nd_lt, nd_nlt, nd_le, nd_nle, nd_eq, nd_ne, mN_at, mN_U, aU_ne, aU_eq, aU_ne2, c']
      rw [g2]
      exact ih'
theorem m_146 {X : mX} {D : Nat} {P : mPost} {A : Nat → Nat → Nat} {G : mG} {a : Nat} (hD : 3 ≤ D) (ha : a < 4294967296) (hn : A 193 0 ≤ 12) (hm : ∀ i, i < A 193 0 → A 196 i ≤ 999) : mCall X D 146 [.ref 185, .int (tN a)] (mN A, RF, G, mSh) P = P (some (.int (tN (if a < A 193 0 then lob (hpI (fun i j => alb (A 196 i) (A 196 j)) (A 193 0) (1 <<< a) (A 193 0)) else 4294967295)))) (mN (aU A 185 0 0), RF, G, mSh) := by
  have e144 := fun P' => m_144 (X := X) (D := D - 1) (P := P') (G := G) (A := aU A 185 0 0) (x := a) (by omega) ha (by rw [zA (by decide)]; exact hn)
  rw [zA (by decide)] at e144
  rw [e_146 (by omega)]
  by_cases c : a < A 193 0
  · rw [hpI_ne (al2 := al2 (A 196)) (fun i j h => by unfold al2; rw [decide_eq_false (fun z => h z.symm), Bool.not_false, Bool.and_true]) (fun i => by unfold al2; rw [decide_eq_true rfl, Bool.not_true, Bool.and_false])]
    have s1 := sh1_lt (show a < 12 by omega)
    have s2 : ∀ j, A 193 0 ≤ j → (1 <<< a).testBit j = false := fun j hj => by rw [Nat.one_shiftLeft, Nat.testBit_two_pow]; exact decide_eq_false (by omega)
    have s3 := sh1_bit (a := a)
    have s4 : ¬ 1 <<< a = 0 := fun z => by rw [z, Nat.zero_testBit] at s3; cases s3
    have l0 := ml_146 (X := X) (D := D - 1) (cap := (mSh.length + (mAl 146).fst, mSum mSh + (mAl 146).snd)) (P := P) (G := G) (A := aU A 185 0 0) (x := 1 <<< a) (a := a) (q := a) (by omega) (by rw [zA (by decide)]; exact hn) (by rw [zA (by decide), zA (by decide)]; exact hm) s1 (by rw [zA (by decide)]; exact s2) (by rw [zA (by decide)]; exact c) s3 (A 193 0) 0
    rw [zA (show (193 : Nat) ≠ 185 by decide), zA (show (196 : Nat) ≠ 185 by decide)] at l0
    obtain ⟨v, g1, g2⟩ := ml_146a (X := X) (D := D - 1) (cap := (mSh.length + (mAl 146).fst, mSum mSh + (mAl 146).snd)) (P := P) (G := G) (A := aU A 185 0 0) (x := 1 <<< a) (y := 1 <<< a) (q := a) (by omega) (by rw [zA (by decide)]; exact hn) (by rw [zA (by decide), zA (by decide)]; exact hm) s1 (A 193 0) 0 .null (by rw [zA (by decide)]; omega) mOk_null
    rw [zA (show (193 : Nat) ≠ 185 by decide), zA (show (196 : Nat) ≠ 185 by decide)] at g2
    have l1 := l0 (.int (tN (A 193 0))) v (by omega) mOk_int g1
    rw [show hpI (al2 (A 196)) (A 193 0) (1 <<< a) (0 + 1) = roO (al2 (A 196)) (A 193 0) (1 <<< a) (A 193 0) from rfl, show hpI (al2 (A 196)) (A 193 0) (1 <<< a) 0 = 1 <<< a from rfl] at l1
    rw [show roO (al2 (A 196)) (A 193 0) (1 <<< a) 0 = 1 <<< a from rfl] at g2
    have s5 : ¬ (0 = 1 <<< a) := fun z => s4 z.symm
    rw [if_pos c]
    simp (disch := first | omega | assumption | exact mOk_int | exact mOk_null | exact mOk_ref | (simp (disch := omega) only [aF_ef, aF_nf, aU_ne, aU_eq, aU_ne2]; first | done | omega | assumption)) only [k_146_0, k_146_1, al_0, r_push, q_putI, il_1, q_callV1, ri_ifne, r_iret, r_ishl, is_2, is_3, il_3, il_2, ri_iceq, is_4, il_4, gq_0, gq_1, gq_2, gq_3, gq_4, q_iald, ri_icge, is_5, il_5, r_ishr, r_iand, ri_ifeq, q_callV2, r_goto, r_ior, ii_5, ii_4, kd_0, kd_1, kd_2, kd_3, kd_4, kd_5, ln_0, ln_1, ln_2, ln_3, ln_4, ln_5, Option.some.injEq, Value.int.injEq, Value.ref.injEq, Value.long.injEq, Prod.mk.injEq, exists_eq_left', exists_eq_left, true_and, and_true, mLk, Option.any_some, mC1, Value.category, Option.toList_some, Option.toList_none, List.nil_append, List.cons_append, List.length_cons, List.length_nil, ne_eq, Nat.reduceEqDiff, not_false_eq_true, reduceCtorEq, exists_and_left, exists_and_right, Nat.reduceLeDiff, Nat.reduceAdd, and_self, exists_eq, exists_eq_right, exists_const, eq_self, exists_eq', not_true_eq_false, false_implies, true_implies, implies_true, forall_const, or_true, true_or, false_or, or_false, and_false, false_and, if_true, if_false, ite_true, ite_false, mB, mOk_int, mOk_ref, mOk_null, mOk_long, Nat.reduceLT, Nat.reduceSub, Nat.reduceMul, Nat.reduceDiv, Nat.reduceMod, Classical.not_not, ↓reduceIte, Nat.zero_add, Nat.add_zero, Nat.add_sub_cancel, Bool.false_eq_true, tN_l, tN_m1, tN_n1, tN_n8, tN_dec, tN_dec8, aF_ef, aF_nf, aF_U, tN_lt, tN_le, tN_inj, tN_add, tN_mul, tN_sub, tN_and, tN_or, tN_xor, tN_and31, tN_clamp, tN_in, tN_div, nm_rem, tN_shl, tN_shr, tN_b2, nd_lt, nd_nlt, nd_le, nd_nle, nd_eq, nd_ne, mN_at, mN_U, aU_ne, aU_eq, aU_ne2, e144, c, kh_146_21, s5]
    rw [g2]
    exact l1
  · simp (disch := first | omega | assumption | exact mOk_int | exact mOk_null | exact mOk_ref | (simp (disch := omega) only [aF_ef, aF_nf, aU_ne, aU_eq, aU_ne2]; first | done | omega | assumption)) only [k_146_0, k_146_1, al_0, r_push, q_putI, il_1, q_callV1, ri_ifne, r_iret, r_ishl, is_2, is_3, il_3, il_2, ri_iceq, is_4, il_4, gq_0, gq_1, gq_2, gq_3, gq_4, q_iald, ri_icge, is_5, il_5, r_ishr, r_iand, ri_ifeq, q_callV2, r_goto, r_ior, ii_5, ii_4, kd_0, kd_1, kd_2, kd_3, kd_4, kd_5, ln_0, ln_1, ln_2, ln_3, ln_4, ln_5, Option.some.injEq, Value.int.injEq, Value.ref.injEq, Value.long.injEq, Prod.mk.injEq, exists_eq_left', exists_eq_left, true_and, and_true, mLk, Option.any_some, mC1, Value.category, Option.toList_some, Option.toList_none, List.nil_append, List.cons_append, List.length_cons, List.length_nil, ne_eq, Nat.reduceEqDiff, not_false_eq_true, reduceCtorEq, exists_and_left, exists_and_right, Nat.reduceLeDiff, Nat.reduceAdd, and_self, exists_eq, exists_eq_right, exists_const, eq_self, exists_eq', not_true_eq_false, false_implies, true_implies, implies_true, forall_const, or_true, true_or, false_or, or_false, and_false, false_and, if_true, if_false, ite_true, ite_false, mB, mOk_int, mOk_ref, mOk_null, mOk_long, Nat.reduceLT, Nat.reduceSub, Nat.reduceMul, Nat.reduceDiv, Nat.reduceMod, Classical.not_not, ↓reduceIte, Nat.zero_add, Nat.add_zero, Nat.add_sub_cancel, Bool.false_eq_true, tN_l, tN_m1, tN_n1, tN_n8, tN_dec, tN_dec8, aF_ef, aF_nf, aF_U, tN_lt, tN_le, tN_inj, tN_add, tN_mul, tN_sub, tN_and, tN_or, tN_xor, tN_and31, tN_clamp, tN_in, tN_div, nm_rem, tN_shl, tN_shr, tN_b2, nd_lt, nd_nlt, nd_le, nd_nle, nd_eq, nd_ne, mN_at, mN_U, aU_ne, aU_eq, aU_ne2, e144, c]

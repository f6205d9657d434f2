set_option maxRecDepth 20000
set_option maxHeartbeats 4000000
/-! CLASS: a state is copied -/
section
variable {A A2 : Nat → Nat → Nat} {B B2 s s2 : Nat}
theorem Rel_cg2 (hc : ∀ j, 1 ≤ j → j < 39 → agC A A2 B B2 j) (f5 : A2 (B2 + 0) 5 = A (B + 0) 5) (f6 : A2 (B2 + 0) 6 = A (B + 0) 6) (hm : ∀ c, 187 ≤ c → c ≤ 213 → c ≠ 197 → agM A A2 s s2 c) (hp : ∀ i, i < A 187 s → A2 186 (i + 300 * s2) = A 186 (i + 300 * s)) (hk : ∀ a, a < A 193 s → A2 197 (a + 12 * s2) = A 197 (a + 12 * s)) (h : Rel A B s) : Rel A2 B2 s2 := by
  obtain ⟨p1, p2, p3, p4, p5, p6⟩ := h
  refine ⟨rlR_cg (fun j h1 h2 => hc j (by omega) (by omega)) (fun c h1 h2 => hm c (by omega) (by omega) (by omega)) p1, ?_, rlH_cg ⟨p1.2.1, fun r hr => (p1.2.2 r hr).2.2.2.1⟩ p2.2.1 (fun j h1 h2 => hc j (by omega) (by omega)) (fun c h1 => hm c (by omega) (by omega) (by omega)) p3, rlT_cg (fun j h1 h2 => hc j (by omega) (by omega)) (fun c h1 h2 => hm c (by omega) (by omega) (by omega)) p4, ?_, ?_⟩
  · have m193 := agM_1 (by decide) (hm 193 (by omega) (by omega) (by omega))
    have c1 : A2 (B2 + 4) 0 = A (B + 4) 0 := hc 4 (by omega) (by omega) 0 (by decide)
    obtain ⟨h1, h2, h3⟩ := p2
    unfold rlK
    rw [m193, c1]
    refine ⟨h1, h2, fun a ha => ?_⟩
    have c5 : A2 (B2 + 5) a = A (B + 5) a := hc 5 (by omega) (by omega) a (show a < 12 by omega)
    have c6 : A2 (B2 + 6) a = A (B + 6) a := hc 6 (by omega) (by omega) a (show a < 12 by omega)
    have c7 : A2 (B2 + 7) a = A (B + 7) a := hc 7 (by omega) (by omega) a (show a < 12 by omega)
    have c8 : A2 (B2 + 8) a = A (B + 8) a := hc 8 (by omega) (by omega) a (show a < 12 by omega)
    have m4 : A2 194 (a + 12 * s2) = A 194 (a + 12 * s) := hm 194 (by omega) (by omega) (by omega) a (show a < 12 by omega)
    have m5 : A2 195 (a + 12 * s2) = A 195 (a + 12 * s) := hm 195 (by omega) (by omega) (by omega) a (show a < 12 by omega)
    have m6 : A2 196 (a + 12 * s2) = A 196 (a + 12 * s) := hm 196 (by omega) (by omega) (by omega) a (show a < 12 by omega)
    rw [c5, c6, c7, c8, m4, m5, m6, hk a ha]
    exact h3 a ha
  · have m187 := agM_1 (by decide) (hm 187 (by omega) (by omega) (by omega))
    have c1 : A2 (B2 + 37) 0 = A (B + 37) 0 := hc 37 (by omega) (by omega) 0 (by decide)
    obtain ⟨h1, h2, h3⟩ := p5
    unfold rlP
    rw [m187, c1]
    refine ⟨h1, h2, fun i hi => ?_⟩
    have c2 : A2 (B2 + 38) i = A (B + 38) i := hc 38 (by omega) (by omega) i (show i < 300 by omega)
    rw [c2, hp i hi]
    exact h3 i hi
  · unfold rlF
    rw [f5, f6, agM_1 (by decide) (hm 188 (by omega) (by omega) (by omega)), agM_1 (by decide) (hm 189 (by omega) (by omega) (by omega))]
    exact p6
end
theorem aU_nf {A : Nat → Nat → Nat} {c i x k : Nat} (h : k ≠ c) : aU A c i x k = A k := by rw [aU_aF, aF_nf h]
def cpF (n : Nat) (f g : Nat → Nat) : Nat → Nat := fun i => if i < n then f i else g i
theorem cpF_in {n i : Nat} {f g : Nat → Nat} (h : i < n) : cpF n f g i = f i := if_pos h
theorem cpy_N' {B : Nat → Nat → Nat} {c d n : Nat} : mCpy (mN B) c d 0 0 n = mN (aF B d (cpF n (B c) (B d))) := cpy_N
theorem tk_kd {f : Nat} (h : (18 ≤ f ∧ f ≤ 29) ∨ (58 ≤ f ∧ f ≤ 69) ∨ (97 ≤ f ∧ f ≤ 108) ∨ (136 ≤ f ∧ f ≤ 147)) : mKd f = 21 ∧ mLn f = 6 := by
  have : ∀ f, f < 160 → (18 ≤ f ∧ f ≤ 29) ∨ (58 ≤ f ∧ f ≤ 69) ∨ (97 ≤ f ∧ f ≤ 108) ∨ (136 ≤ f ∧ f ≤ 147) → mKd f = 21 ∧ mLn f = 6 := by decide +kernel
  exact this f (by omega) h
def tkA (A : Nat → Nat → Nat) (c d k : Nat) : Nat → Nat → Nat := fun x i => if d ≤ x ∧ x < d + k then cpF 6 (A (x - d + c)) (A x) i else A x i
theorem tkA_o {A : Nat → Nat → Nat} {c d k x : Nat} (h : x < d ∨ d + k ≤ x) : tkA A c d k x = A x := by
  funext i
  unfold tkA
  rw [if_neg (by omega)]
theorem tkA_s {A : Nat → Nat → Nat} {c d k : Nat} (h : c + 12 ≤ d ∨ d + 12 ≤ c) (hk : k < 12) : aF (tkA A c d k) (d + k) (cpF 6 (tkA A c d k (c + k)) (tkA A c d k (d + k))) = tkA A c d (k + 1) := by
  rw [tkA_o (x := c + k) (by omega), tkA_o (x := d + k) (by omega)]
  funext x i
  unfold aF tkA
  by_cases e : x = d + k
  · rw [if_pos e, if_pos (by omega), e, show d + k - d + c = c + k by omega]
  · rw [if_neg e]
    by_cases e2 : d ≤ x ∧ x < d + k
    · rw [if_pos e2, if_pos (by omega)]
    · rw [if_neg e2, if_neg (by omega)]
theorem c_117_1_41 {X : mX} {D : Nat} {P : mPost} {A : Nat → Nat → Nat} {G : mG} (hD : 1 ≤ D) : mCall X D 117 [.ref 42, .ref 2] (mN A, RF, G, mSh) P = P none (mN (aF (aF (aU A 42 0 (A 2 0)) 43 (cpF 6 (A 3) (A 43))) 44 (cpF 6 (A 4) (A 44))), RF, G, mSh) := by
  rw [e_117 hD]
  simp (disch := first | omega | assumption | exact mOk_int | exact mOk_null | exact mOk_ref | (simp (disch := omega) only [aF_ef, aF_nf, aU_ne, aU_eq, aU_ne2]; first | done | omega | assumption)) only [k_117_0, al_0, al_1, q_getI, q_putI, gq_0, gq_1, gq_2, gq_3, gq_4, r_push, q_acopy, r_vret, kd_0, kd_1, kd_2, kd_3, kd_4, kd_5, ln_0, ln_1, ln_2, ln_3, ln_4, ln_5, Option.some.injEq, Value.int.injEq, Value.ref.injEq, Value.long.injEq, Prod.mk.injEq, exists_eq_left', exists_eq_left, true_and, and_true, mLk, Option.any_some, mC1, Value.category, Option.toList_some, Option.toList_none, List.nil_append, List.cons_append, List.length_cons, List.length_nil, ne_eq, Nat.reduceEqDiff, not_false_eq_true, reduceCtorEq, exists_and_left, exists_and_right, Nat.reduceLeDiff, Nat.reduceAdd, and_self, exists_eq, exists_eq_right, exists_const, eq_self, exists_eq', not_true_eq_false, false_implies, true_implies, implies_true, forall_const, or_true, true_or, false_or, or_false, and_false, false_and, if_true, if_false, ite_true, ite_false, mB, mOk_int, mOk_ref, mOk_null, mOk_long, Nat.reduceLT, Nat.reduceSub, Nat.reduceMul, Nat.reduceDiv, Nat.reduceMod, Classical.not_not, ↓reduceIte, Nat.zero_add, Nat.add_zero, Nat.add_sub_cancel, Bool.false_eq_true, tN_l, tN_m1, tN_n1, tN_n8, tN_dec, tN_dec8, aF_ef, aF_nf, aF_U, tN_lt, tN_le, tN_inj, tN_add, tN_mul, tN_sub, tN_and, tN_or, tN_xor, tN_and31, tN_clamp, tN_in, tN_div, nm_rem, tN_shl, tN_shr, tN_b2, nd_lt, nd_nlt, nd_le, nd_nle, nd_eq, nd_ne, mN_at, mN_U, aU_ne, aU_eq, aU_ne2, cpy_N', aU_nf]
theorem c_118_1_41 {X : mX} {D : Nat} {P : mPost} {A : Nat → Nat → Nat} {G : mG} (hD : 1 ≤ D) : mCall X D 118 [.ref 45, .ref 5] (mN A, RF, G, mSh) P = P none (mN (aF (aF (aF (aF (aU A 45 0 (A 5 0)) 46 (cpF 12 (A 6) (A 46))) 47 (cpF 12 (A 7) (A 47))) 48 (cpF 12 (A 8) (A 48))) 49 (cpF 12 (A 9) (A 49))), RF, G, mSh) := by
  rw [e_118 hD]
  simp (disch := first | omega | assumption | exact mOk_int | exact mOk_null | exact mOk_ref | (simp (disch := omega) only [aF_ef, aF_nf, aU_ne, aU_eq, aU_ne2]; first | done | omega | assumption)) only [k_118_0, al_0, al_1, q_getI, q_putI, gq_0, gq_1, gq_2, gq_3, gq_4, r_push, q_acopy, r_vret, kd_0, kd_1, kd_2, kd_3, kd_4, kd_5, ln_0, ln_1, ln_2, ln_3, ln_4, ln_5, Option.some.injEq, Value.int.injEq, Value.ref.injEq, Value.long.injEq, Prod.mk.injEq, exists_eq_left', exists_eq_left, true_and, and_true, mLk, Option.any_some, mC1, Value.category, Option.toList_some, Option.toList_none, List.nil_append, List.cons_append, List.length_cons, List.length_nil, ne_eq, Nat.reduceEqDiff, not_false_eq_true, reduceCtorEq, exists_and_left, exists_and_right, Nat.reduceLeDiff, Nat.reduceAdd, and_self, exists_eq, exists_eq_right, exists_const, eq_self, exists_eq', not_true_eq_false, false_implies, true_implies, implies_true, forall_const, or_true, true_or, false_or, or_false, and_false, false_and, if_true, if_false, ite_true, ite_false, mB, mOk_int, mOk_ref, mOk_null, mOk_long, Nat.reduceLT, Nat.reduceSub, Nat.reduceMul, Nat.reduceDiv, Nat.reduceMod, Classical.not_not, ↓reduceIte, Nat.zero_add, Nat.add_zero, Nat.add_sub_cancel, Bool.false_eq_true, tN_l, tN_m1, tN_n1, tN_n8, tN_dec, tN_dec8, aF_ef, aF_nf, aF_U, tN_lt, tN_le, tN_inj, tN_add, tN_mul, tN_sub, tN_and, tN_or, tN_xor, tN_and31, tN_clamp, tN_in, tN_div, nm_rem, tN_shl, tN_shr, tN_b2, nd_lt, nd_nlt, nd_le, nd_nle, nd_eq, nd_ne, mN_at, mN_U, aU_ne, aU_eq, aU_ne2, cpy_N', aU_nf]
theorem c_89_1_41 {X : mX} {D : Nat} {P : mPost} {A : Nat → Nat → Nat} {G : mG} (hD : 1 ≤ D) : mCall X D 89 [.ref 70, .ref 30] (mN A, RF, G, mSh) P = P none (mN (aF (aF (aF (aF (aF (aF (aU A 70 0 (A 30 0)) 71 (cpF 12 (A 31) (A 71))) 72 (cpF 12 (A 32) (A 72))) 73 (cpF 48 (A 33) (A 73))) 74 (cpF 48 (A 34) (A 74))) 75 (cpF 48 (A 35) (A 75))) 76 (cpF 48 (A 36) (A 76))), RF, G, mSh) := by
  rw [e_89 hD]
  simp (disch := first | omega | assumption | exact mOk_int | exact mOk_null | exact mOk_ref | (simp (disch := omega) only [aF_ef, aF_nf, aU_ne, aU_eq, aU_ne2]; first | done | omega | assumption)) only [k_89_0, k_89_1, al_0, al_1, q_getI, q_putI, gq_0, gq_1, gq_2, gq_3, gq_4, r_push, q_acopy, r_vret, kd_0, kd_1, kd_2, kd_3, kd_4, kd_5, ln_0, ln_1, ln_2, ln_3, ln_4, ln_5, Option.some.injEq, Value.int.injEq, Value.ref.injEq, Value.long.injEq, Prod.mk.injEq, exists_eq_left', exists_eq_left, true_and, and_true, mLk, Option.any_some, mC1, Value.category, Option.toList_some, Option.toList_none, List.nil_append, List.cons_append, List.length_cons, List.length_nil, ne_eq, Nat.reduceEqDiff, not_false_eq_true, reduceCtorEq, exists_and_left, exists_and_right, Nat.reduceLeDiff, Nat.reduceAdd, and_self, exists_eq, exists_eq_right, exists_const, eq_self, exists_eq', not_true_eq_false, false_implies, true_implies, implies_true, forall_const, or_true, true_or, false_or, or_false, and_false, false_and, if_true, if_false, ite_true, ite_false, mB, mOk_int, mOk_ref, mOk_null, mOk_long, Nat.reduceLT, Nat.reduceSub, Nat.reduceMul, Nat.reduceDiv, Nat.reduceMod, Classical.not_not, ↓reduceIte, Nat.zero_add, Nat.add_zero, Nat.add_sub_cancel, Bool.false_eq_true, tN_l, tN_m1, tN_n1, tN_n8, tN_dec, tN_dec8, aF_ef, aF_nf, aF_U, tN_lt, tN_le, tN_inj, tN_add, tN_mul, tN_sub, tN_and, tN_or, tN_xor, tN_and31, tN_clamp, tN_in, tN_div, nm_rem, tN_shl, tN_shr, tN_b2, nd_lt, nd_nlt, nd_le, nd_nle, nd_eq, nd_ne, mN_at, mN_U, aU_ne, aU_eq, aU_ne2, cpy_N', aU_nf]
theorem c_120_1_41 {X : mX} {D : Nat} {P : mPost} {A : Nat → Nat → Nat} {G : mG} (hD : 1 ≤ D) : mCall X D 120 [.ref 78, .ref 38] (mN A, RF, G, mSh) P = P none (mN (aF (aU A 78 0 (A 38 0)) 79 (cpF 300 (A 39) (A 79))), RF, G, mSh) := by
  rw [e_120 hD]
  simp (disch := first | omega | assumption | exact mOk_int | exact mOk_null | exact mOk_ref | (simp (disch := omega) only [aF_ef, aF_nf, aU_ne, aU_eq, aU_ne2]; first | done | omega | assumption)) only [k_120_0, al_0, al_1, q_getI, q_putI, gq_0, gq_1, gq_2, gq_3, gq_4, r_push, q_acopy, r_vret, kd_0, kd_1, kd_2, kd_3, kd_4, kd_5, ln_0, ln_1, ln_2, ln_3, ln_4, ln_5, Option.some.injEq, Value.int.injEq, Value.ref.injEq, Value.long.injEq, Prod.mk.injEq, exists_eq_left', exists_eq_left, true_and, and_true, mLk, Option.any_some, mC1, Value.category, Option.toList_some, Option.toList_none, List.nil_append, List.cons_append, List.length_cons, List.length_nil, ne_eq, Nat.reduceEqDiff, not_false_eq_true, reduceCtorEq, exists_and_left, exists_and_right, Nat.reduceLeDiff, Nat.reduceAdd, and_self, exists_eq, exists_eq_right, exists_const, eq_self, exists_eq', not_true_eq_false, false_implies, true_implies, implies_true, forall_const, or_true, true_or, false_or, or_false, and_false, false_and, if_true, if_false, ite_true, ite_false, mB, mOk_int, mOk_ref, mOk_null, mOk_long, Nat.reduceLT, Nat.reduceSub, Nat.reduceMul, Nat.reduceDiv, Nat.reduceMod, Classical.not_not, ↓reduceIte, Nat.zero_add, Nat.add_zero, Nat.add_sub_cancel, Bool.false_eq_true, tN_l, tN_m1, tN_n1, tN_n8, tN_dec, tN_dec8, aF_ef, aF_nf, aF_U, tN_lt, tN_le, tN_inj, tN_add, tN_mul, tN_sub, tN_and, tN_or, tN_xor, tN_and31, tN_clamp, tN_in, tN_div, nm_rem, tN_shl, tN_shr, tN_b2, nd_lt, nd_nlt, nd_le, nd_nle, nd_eq, nd_ne, mN_at, mN_U, aU_ne, aU_eq, aU_ne2, cpy_N', aU_nf]
theorem l_119_1_41 {X : mX} {D : Nat} {cap : Nat × Nat} {P : mPost} {G : mG} {A : Nat → Nat → Nat} : ∀ m k, k + m = 12 → mW (mCall X D) X cap 119 P 116 [.ref 50, .ref 10, .int (tN k)] [] (mN (tkA A 18 58 k), RF, G, mSh) = P none (mN (tkA A 18 58 12), RF, G, mSh) := by
  intro m
  induction m with
  | zero =>
    intro k e
    obtain rfl : k = 12 := by omega
    rw [kh_119_116]
    simp (disch := first | omega | assumption | exact mOk_int | exact mOk_null | exact mOk_ref | (simp (disch := omega) only [aF_ef, aF_nf, aU_ne, aU_eq, aU_ne2]; first | done | omega | assumption)) only [k_119_0, k_119_1, al_0, al_1, q_getI, q_putZ, q_putI, gq_0, gq_1, gq_2, gq_3, gq_4, r_push, q_acopy, is_2, il_2, ri_icge, ar_17, ar_57, ar_96, ar_135, ar_164, ar_40_0, ar_40_1, ar_40_2, ii_2, r_goto, r_vret, kd_0, kd_1, kd_2, kd_3, kd_4, kd_5, ln_0, ln_1, ln_2, ln_3, ln_4, ln_5, Option.some.injEq, Value.int.injEq, Value.ref.injEq, Value.long.injEq, Prod.mk.injEq, exists_eq_left', exists_eq_left, true_and, and_true, mLk, Option.any_some, mC1, Value.category, Option.toList_some, Option.toList_none, List.nil_append, List.cons_append, List.length_cons, List.length_nil, ne_eq, Nat.reduceEqDiff, not_false_eq_true, reduceCtorEq, exists_and_left, exists_and_right, Nat.reduceLeDiff, Nat.reduceAdd, and_self, exists_eq, exists_eq_right, exists_const, eq_self, exists_eq', not_true_eq_false, false_implies, true_implies, implies_true, forall_const, or_true, true_or, false_or, or_false, and_false, false_and, if_true, if_false, ite_true, ite_false, mB, mOk_int, mOk_ref, mOk_null, mOk_long, Nat.reduceLT, Nat.reduceSub, Nat.reduceMul, Nat.reduceDiv, Nat.reduceMod, Classical.not_not, ↓reduceIte, Nat.zero_add, Nat.add_zero, Nat.add_sub_cancel, Bool.false_eq_true, tN_l, tN_m1, tN_n1, tN_n8, tN_dec, tN_dec8, aF_ef, aF_nf, aF_U, tN_lt, tN_le, tN_inj, tN_add, tN_mul, tN_sub, tN_and, tN_or, tN_xor, tN_and31, tN_clamp, tN_in, tN_div, nm_rem, tN_shl, tN_shr, tN_b2, nd_lt, nd_nlt, nd_le, nd_nle, nd_eq, nd_ne, mN_at, mN_U, aU_ne, aU_eq, aU_ne2]
  | succ m ih =>
    intro k e
    obtain ⟨w1, w2⟩ := tk_kd (f := 18 + k) (by omega)
    obtain ⟨w3, w4⟩ := tk_kd (f := 58 + k) (by omega)
    rw [← ih (k + 1) (by omega), ← tkA_s (by omega) (by omega), kh_119_116]
    simp (disch := first | omega | assumption | exact mOk_int | exact mOk_null | exact mOk_ref | (simp (disch := omega) only [aF_ef, aF_nf, aU_ne, aU_eq, aU_ne2]; first | done | omega | assumption)) only [k_119_0, k_119_1, al_0, al_1, q_getI, q_putZ, q_putI, gq_0, gq_1, gq_2, gq_3, gq_4, r_push, q_acopy, is_2, il_2, ri_icge, ar_17, ar_57, ar_96, ar_135, ar_164, ar_40_0, ar_40_1, ar_40_2, ii_2, r_goto, r_vret, kd_0, kd_1, kd_2, kd_3, kd_4, kd_5, ln_0, ln_1, ln_2, ln_3, ln_4, ln_5, Option.some.injEq, Value.int.injEq, Value.ref.injEq, Value.long.injEq, Prod.mk.injEq, exists_eq_left', exists_eq_left, true_and, and_true, mLk, Option.any_some, mC1, Value.category, Option.toList_some, Option.toList_none, List.nil_append, List.cons_append, List.length_cons, List.length_nil, ne_eq, Nat.reduceEqDiff, not_false_eq_true, reduceCtorEq, exists_and_left, exists_and_right, Nat.reduceLeDiff, Nat.reduceAdd, and_self, exists_eq, exists_eq_right, exists_const, eq_self, exists_eq', not_true_eq_false, false_implies, true_implies, implies_true, forall_const, or_true, true_or, false_or, or_false, and_false, false_and, if_true, if_false, ite_true, ite_false, mB, mOk_int, mOk_ref, mOk_null, mOk_long, Nat.reduceLT, Nat.reduceSub, Nat.reduceMul, Nat.reduceDiv, Nat.reduceMod, Classical.not_not, ↓reduceIte, Nat.zero_add, Nat.add_zero, Nat.add_sub_cancel, Bool.false_eq_true, tN_l, tN_m1, tN_n1, tN_n8, tN_dec, tN_dec8, aF_ef, aF_nf, aF_U, tN_lt, tN_le, tN_inj, tN_add, tN_mul, tN_sub, tN_and, tN_or, tN_xor, tN_and31, tN_clamp, tN_in, tN_div, nm_rem, tN_shl, tN_shr, tN_b2, nd_lt, nd_nlt, nd_le, nd_nle, nd_eq, nd_ne, mN_at, mN_U, aU_ne, aU_eq, aU_ne2, cpy_N', w1, w2, w3, w4]
theorem c_119_1_41 {X : mX} {D : Nat} {P : mPost} {A : Nat → Nat → Nat} {G : mG} (hD : 1 ≤ D) (hs : A 10 0 ≤ 1) : mCall X D 119 [.ref 50, .ref 10] (mN A, RF, G, mSh) P = P none (mN (tkA (aF (aF (aF (aF (aF (aF (aU (aU (aU A 50 0 (A 10 0)) 50 1 (A 10 1)) 50 2 (A 10 2)) 51 (cpF 12 (A 11) (A 51))) 52 (cpF 6 (A 12) (A 52))) 53 (cpF 6 (A 13) (A 53))) 54 (cpF 12 (A 14) (A 54))) 55 (cpF 12 (A 15) (A 55))) 56 (cpF 12 (A 16) (A 56))) 18 58 12), RF, G, mSh) := by
  have l := l_119_1_41 (X := X) (D := D - 1) (cap := (mSh.length + (mAl 119).fst, mSum mSh + (mAl 119).snd)) (P := P) (G := G) (A := aF (aF (aF (aF (aF (aF (aU (aU (aU A 50 0 (A 10 0)) 50 1 (A 10 1)) 50 2 (A 10 2)) 51 (cpF 12 (A 11) (A 51))) 52 (cpF 6 (A 12) (A 52))) 53 (cpF 6 (A 13) (A 53))) 54 (cpF 12 (A 14) (A 54))) 55 (cpF 12 (A 15) (A 55))) 56 (cpF 12 (A 16) (A 56))) 12 0 (by omega)
  rw [show tkA (aF (aF (aF (aF (aF (aF (aU (aU (aU A 50 0 (A 10 0)) 50 1 (A 10 1)) 50 2 (A 10 2)) 51 (cpF 12 (A 11) (A 51))) 52 (cpF 6 (A 12) (A 52))) 53 (cpF 6 (A 13) (A 53))) 54 (cpF 12 (A 14) (A 54))) 55 (cpF 12 (A 15) (A 55))) 56 (cpF 12 (A 16) (A 56))) 18 58 0 = aF (aF (aF (aF (aF (aF (aU (aU (aU A 50 0 (A 10 0)) 50 1 (A 10 1)) 50 2 (A 10 2)) 51 (cpF 12 (A 11) (A 51))) 52 (cpF 6 (A 12) (A 52))) 53 (cpF 6 (A 13) (A 53))) 54 (cpF 12 (A 14) (A 54))) 55 (cpF 12 (A 15) (A 55))) 56 (cpF 12 (A 16) (A 56)) from funext fun x => tkA_o (by omega)] at l
  rw [e_119 hD]
  simp (disch := first | omega | assumption | exact mOk_int | exact mOk_null | exact mOk_ref | (simp (disch := omega) only [aF_ef, aF_nf, aU_ne, aU_eq, aU_ne2]; first | done | omega | assumption)) only [k_119_0, k_119_1, al_0, al_1, q_getI, q_putZ, q_putI, gq_0, gq_1, gq_2, gq_3, gq_4, r_push, q_acopy, is_2, il_2, ri_icge, ar_17, ar_57, ar_96, ar_135, ar_164, ar_40_0, ar_40_1, ar_40_2, ii_2, r_goto, r_vret, kd_0, kd_1, kd_2, kd_3, kd_4, kd_5, ln_0, ln_1, ln_2, ln_3, ln_4, ln_5, Option.some.injEq, Value.int.injEq, Value.ref.injEq, Value.long.injEq, Prod.mk.injEq, exists_eq_left', exists_eq_left, true_and, and_true, mLk, Option.any_some, mC1, Value.category, Option.toList_some, Option.toList_none, List.nil_append, List.cons_append, List.length_cons, List.length_nil, ne_eq, Nat.reduceEqDiff, not_false_eq_true, reduceCtorEq, exists_and_left, exists_and_right, Nat.reduceLeDiff, Nat.reduceAdd, and_self, exists_eq, exists_eq_right, exists_const, eq_self, exists_eq', not_true_eq_false, false_implies, true_implies, implies_true, forall_const, or_true, true_or, false_or, or_false, and_false, false_and, if_true, if_false, ite_true, ite_false, mOk_int, mOk_ref, mOk_null, mOk_long, Nat.reduceLT, Nat.reduceSub, Nat.reduceMul, Nat.reduceDiv, Nat.reduceMod, Classical.not_not, ↓reduceIte, Nat.zero_add, Nat.add_zero, Nat.add_sub_cancel, Bool.false_eq_true, tN_l, tN_m1, tN_n1, tN_n8, tN_dec, tN_dec8, aF_ef, aF_nf, aF_U, tN_lt, tN_le, tN_inj, tN_add, tN_mul, tN_sub, tN_and, tN_or, tN_xor, tN_and31, tN_clamp, tN_in, tN_div, nm_rem, tN_shl, tN_shr, tN_b2, nd_lt, nd_nlt, nd_le, nd_nle, nd_eq, nd_ne, mN_at, mN_U, aU_ne, aU_eq, aU_ne2, cpy_N', mB_n, aU_nf]
  exact l
theorem c_116_1_41 {X : mX} {D : Nat} {G : mG} {A : Nat → Nat → Nat} (hD : 2 ≤ D) (hs : A 10 0 ≤ 1) : ∃ A' : Nat → Nat → Nat, (∀ j, 1 ≤ j → j < 39 → agC A A' 1 41 j) ∧ A' 41 5 = A 1 5 ∧ A' 41 6 = A 1 6 ∧ (∀ x, (x < 41 ∨ 79 < x) → A' x = A x) ∧ ∀ P, mCall X D 116 [.ref 41, .ref 1] (mN A, RF, G, mSh) P = P none (mN (A'), RF, G, mSh) := by
  have e1 := fun P' => c_117_1_41 (X := X) (D := D - 1) (P := P') (G := G) (A := A) (by omega)
  generalize h1 : aF (aF (aU A 42 0 (A 2 0)) 43 (cpF 6 (A 3) (A 43))) 44 (cpF 6 (A 4) (A 44)) = A1 at e1
  have o1 : ∀ x, (x < 42 ∨ 44 < x) → A1 x = A x := fun x z => by rw [← h1, aF_nf (by omega), aF_nf (by omega), aU_aF, aF_nf (by omega)]
  have e2 := fun P' => c_118_1_41 (X := X) (D := D - 1) (P := P') (G := G) (A := A1) (by omega)
  generalize h2 : aF (aF (aF (aF (aU A1 45 0 (A1 5 0)) 46 (cpF 12 (A1 6) (A1 46))) 47 (cpF 12 (A1 7) (A1 47))) 48 (cpF 12 (A1 8) (A1 48))) 49 (cpF 12 (A1 9) (A1 49)) = A2 at e2
  have o2 : ∀ x, (x < 45 ∨ 49 < x) → A2 x = A1 x := fun x z => by rw [← h2, aF_nf (by omega), aF_nf (by omega), aF_nf (by omega), aF_nf (by omega), aU_aF, aF_nf (by omega)]
  have e3 := fun P' => c_119_1_41 (X := X) (D := D - 1) (P := P') (G := G) (A := A2) (by omega) (by rw [o2 10 (by omega), o1 10 (by omega)]; exact hs)
  generalize h3 : tkA (aF (aF (aF (aF (aF (aF (aU (aU (aU A2 50 0 (A2 10 0)) 50 1 (A2 10 1)) 50 2 (A2 10 2)) 51 (cpF 12 (A2 11) (A2 51))) 52 (cpF 6 (A2 12) (A2 52))) 53 (cpF 6 (A2 13) (A2 53))) 54 (cpF 12 (A2 14) (A2 54))) 55 (cpF 12 (A2 15) (A2 55))) 56 (cpF 12 (A2 16) (A2 56))) 18 58 12 = A3 at e3
  have o3 : ∀ x, (x < 50 ∨ 69 < x) → A3 x = A2 x := fun x z => by rw [← h3, tkA_o (by omega), aF_nf (by omega), aF_nf (by omega), aF_nf (by omega), aF_nf (by omega), aF_nf (by omega), aF_nf (by omega), aU_aF, aU_aF, aU_aF, aF_nf (by omega), aF_nf (by omega), aF_nf (by omega)]
  have e4 := fun P' => c_89_1_41 (X := X) (D := D - 1) (P := P') (G := G) (A := A3) (by omega)
  generalize h4 : aF (aF (aF (aF (aF (aF (aU A3 70 0 (A3 30 0)) 71 (cpF 12 (A3 31) (A3 71))) 72 (cpF 12 (A3 32) (A3 72))) 73 (cpF 48 (A3 33) (A3 73))) 74 (cpF 48 (A3 34) (A3 74))) 75 (cpF 48 (A3 35) (A3 75))) 76 (cpF 48 (A3 36) (A3 76)) = A4 at e4
  have o4 : ∀ x, (x < 70 ∨ 76 < x) → A4 x = A3 x := fun x z => by rw [← h4, aF_nf (by omega), aF_nf (by omega), aF_nf (by omega), aF_nf (by omega), aF_nf (by omega), aF_nf (by omega), aU_aF, aF_nf (by omega)]
  have e5 := fun P' => c_120_1_41 (X := X) (D := D - 1) (P := P') (G := G) (A := A4) (by omega)
  generalize h5 : aF (aU A4 78 0 (A4 38 0)) 79 (cpF 300 (A4 39) (A4 79)) = A5 at e5
  have o5 : ∀ x, (x < 78 ∨ 79 < x) → A5 x = A4 x := fun x z => by rw [← h5, aF_nf (by omega), aU_aF, aF_nf (by omega)]
  have g1 : ∀ x, (x < 41 ∨ 79 < x) → A1 x = A x := fun x z => o1 x (by omega)
  have g2 : ∀ x, (x < 41 ∨ 79 < x) → A2 x = A x := fun x z => by rw [o2 x (by omega), g1 x z]
  have g3 : ∀ x, (x < 41 ∨ 79 < x) → A3 x = A x := fun x z => by rw [o3 x (by omega), g2 x z]
  have g4 : ∀ x, (x < 41 ∨ 79 < x) → A4 x = A x := fun x z => by rw [o4 x (by omega), g3 x z]
  have g5 : ∀ x, (x < 41 ∨ 79 < x) → A5 x = A x := fun x z => by rw [o5 x (by omega), g4 x z]
  have w : ∀ x, x ≠ 41 → aU (aU A5 41 5 (A 1 5)) 41 6 (A 1 6) x = A5 x := fun x z => by rw [aU_aF, aU_aF, aF_nf z, aF_nf z]
  refine ⟨aU (aU A5 41 5 (A 1 5)) 41 6 (A 1 6), fun j hj1 hj => ?_, (aU_ne2 (by decide)).trans aU_eq, aU_eq, fun x hx => by rw [w x (by omega), g5 x hx], fun P => ?_⟩
  · have cs : (j = 36) ∨ (j = 1 ∨ j = 2 ∨ j = 3) ∨ (j = 4 ∨ j = 5 ∨ j = 6 ∨ j = 7 ∨ j = 8) ∨ (j = 9 ∨ j = 10 ∨ j = 11 ∨ j = 12 ∨ j = 13 ∨ j = 14 ∨ j = 15 ∨ j = 16) ∨ (17 ≤ j ∧ j ≤ 28) ∨ (j = 29 ∨ j = 30 ∨ j = 31 ∨ j = 32 ∨ j = 33 ∨ j = 34 ∨ j = 35) ∨ (j = 37 ∨ j = 38) := by omega
    rcases cs with rfl | (rfl | rfl | rfl) | (rfl | rfl | rfl | rfl | rfl) | (rfl | rfl | rfl | rfl | rfl | rfl | rfl | rfl) | ⟨j1, j2⟩ | (rfl | rfl | rfl | rfl | rfl | rfl | rfl) | (rfl | rfl)
    · intro i hi
      have hi : i < 0 := hi
      omega
    · intro i hi
      have hi : i < 1 := hi
      obtain rfl : i = 0 := by omega
      show aU (aU A5 41 5 (A 1 5)) 41 6 (A 1 6) 42 0 = A 2 0
      rw [w 42 (by decide), o5 42 (by omega), o4 42 (by omega), o3 42 (by omega), o2 42 (by omega), ← h1, aF_nf (by decide), aF_nf (by decide), aU_eq]
    · intro i hi
      have hi : i < 6 := hi
      show aU (aU A5 41 5 (A 1 5)) 41 6 (A 1 6) 43 i = A 3 i
      rw [w 43 (by decide), o5 43 (by omega), o4 43 (by omega), o3 43 (by omega), o2 43 (by omega), ← h1, aF_nf (by decide), aF_ef, cpF_in hi]
    · intro i hi
      have hi : i < 6 := hi
      show aU (aU A5 41 5 (A 1 5)) 41 6 (A 1 6) 44 i = A 4 i
      rw [w 44 (by decide), o5 44 (by omega), o4 44 (by omega), o3 44 (by omega), o2 44 (by omega), ← h1, aF_ef, cpF_in hi]
    · intro i hi
      have hi : i < 1 := hi
      obtain rfl : i = 0 := by omega
      show aU (aU A5 41 5 (A 1 5)) 41 6 (A 1 6) 45 0 = A 5 0
      rw [w 45 (by decide), o5 45 (by omega), o4 45 (by omega), o3 45 (by omega), ← h2, aF_nf (by decide), aF_nf (by decide), aF_nf (by decide), aF_nf (by decide), aU_eq, g1 5 (by omega)]
    · intro i hi
      have hi : i < 12 := hi
      show aU (aU A5 41 5 (A 1 5)) 41 6 (A 1 6) 46 i = A 6 i
      rw [w 46 (by decide), o5 46 (by omega), o4 46 (by omega), o3 46 (by omega), ← h2, aF_nf (by decide), aF_nf (by decide), aF_nf (by decide), aF_ef, cpF_in hi, g1 6 (by omega)]
    · intro i hi
      have hi : i < 12 := hi
      show aU (aU A5 41 5 (A 1 5)) 41 6 (A 1 6) 47 i = A 7 i
      rw [w 47 (by decide), o5 47 (by omega), o4 47 (by omega), o3 47 (by omega), ← h2, aF_nf (by decide), aF_nf (by decide), aF_ef, cpF_in hi, g1 7 (by omega)]
    · intro i hi
      have hi : i < 12 := hi
      show aU (aU A5 41 5 (A 1 5)) 41 6 (A 1 6) 48 i = A 8 i
      rw [w 48 (by decide), o5 48 (by omega), o4 48 (by omega), o3 48 (by omega), ← h2, aF_nf (by decide), aF_ef, cpF_in hi, g1 8 (by omega)]
    · intro i hi
      have hi : i < 12 := hi
      show aU (aU A5 41 5 (A 1 5)) 41 6 (A 1 6) 49 i = A 9 i
      rw [w 49 (by decide), o5 49 (by omega), o4 49 (by omega), o3 49 (by omega), ← h2, aF_ef, cpF_in hi, g1 9 (by omega)]
    · intro i hi
      have hi : i < 3 := hi
      show aU (aU A5 41 5 (A 1 5)) 41 6 (A 1 6) 50 i = A 10 i
      rw [w 50 (by decide), o5 50 (by omega), o4 50 (by omega), ← h3, tkA_o (by omega), aF_nf (by decide), aF_nf (by decide), aF_nf (by decide), aF_nf (by decide), aF_nf (by decide), aF_nf (by decide), ← g2 10 (by omega)]
      have : i = 0 ∨ i = 1 ∨ i = 2 := by omega
      rcases this with rfl | rfl | rfl
      · rw [aU_ne2 (by decide), aU_ne2 (by decide), aU_eq]
      · rw [aU_ne2 (by decide), aU_eq]
      · rw [aU_eq]
    · intro i hi
      have hi : i < 12 := hi
      show aU (aU A5 41 5 (A 1 5)) 41 6 (A 1 6) 51 i = A 11 i
      rw [w 51 (by decide), o5 51 (by omega), o4 51 (by omega), ← h3, tkA_o (by omega), aF_nf (by decide), aF_nf (by decide), aF_nf (by decide), aF_nf (by decide), aF_nf (by decide), aF_ef, cpF_in hi, g2 11 (by omega)]
    · intro i hi
      have hi : i < 6 := hi
      show aU (aU A5 41 5 (A 1 5)) 41 6 (A 1 6) 52 i = A 12 i
      rw [w 52 (by decide), o5 52 (by omega), o4 52 (by omega), ← h3, tkA_o (by omega), aF_nf (by decide), aF_nf (by decide), aF_nf (by decide), aF_nf (by decide), aF_ef, cpF_in hi, g2 12 (by omega)]
    · intro i hi
      have hi : i < 6 := hi
      show aU (aU A5 41 5 (A 1 5)) 41 6 (A 1 6) 53 i = A 13 i
      rw [w 53 (by decide), o5 53 (by omega), o4 53 (by omega), ← h3, tkA_o (by omega), aF_nf (by decide), aF_nf (by decide), aF_nf (by decide), aF_ef, cpF_in hi, g2 13 (by omega)]
    · intro i hi
      have hi : i < 12 := hi
      show aU (aU A5 41 5 (A 1 5)) 41 6 (A 1 6) 54 i = A 14 i
      rw [w 54 (by decide), o5 54 (by omega), o4 54 (by omega), ← h3, tkA_o (by omega), aF_nf (by decide), aF_nf (by decide), aF_ef, cpF_in hi, g2 14 (by omega)]
    · intro i hi
      have hi : i < 12 := hi
      show aU (aU A5 41 5 (A 1 5)) 41 6 (A 1 6) 55 i = A 15 i
      rw [w 55 (by decide), o5 55 (by omega), o4 55 (by omega), ← h3, tkA_o (by omega), aF_nf (by decide), aF_ef, cpF_in hi, g2 15 (by omega)]
    · intro i hi
      have hi : i < 12 := hi
      show aU (aU A5 41 5 (A 1 5)) 41 6 (A 1 6) 56 i = A 16 i
      rw [w 56 (by decide), o5 56 (by omega), o4 56 (by omega), ← h3, tkA_o (by omega), aF_ef, cpF_in hi, g2 16 (by omega)]
    · intro i hi
      have hi : i < 0 := hi
      omega
    · intro i hi
      have hi : i < 6 := by
        have : lC j = 6 := by unfold lC; rw [if_neg (by omega), if_neg (by omega), if_neg (by omega), if_neg (by omega), if_neg (by omega), if_neg (by omega), if_neg (by omega), if_neg (by omega), if_neg (by omega), if_neg (by omega), if_pos (by omega)]
        omega
      rw [w (41 + j) (by omega), o5 (41 + j) (by omega), o4 (41 + j) (by omega), ← h3]
      unfold tkA
      rw [if_pos (by omega), cpF_in hi, show 41 + j - 58 + 18 = 1 + j by omega, aF_nf (by omega), aF_nf (by omega), aF_nf (by omega), aF_nf (by omega), aF_nf (by omega), aF_nf (by omega), aU_aF, aU_aF, aU_aF, aF_nf (by omega), aF_nf (by omega), aF_nf (by omega), g2 (1 + j) (by omega)]
    · intro i hi
      have hi : i < 1 := hi
      obtain rfl : i = 0 := by omega
      show aU (aU A5 41 5 (A 1 5)) 41 6 (A 1 6) 70 0 = A 30 0
      rw [w 70 (by decide), o5 70 (by omega), ← h4, aF_nf (by decide), aF_nf (by decide), aF_nf (by decide), aF_nf (by decide), aF_nf (by decide), aF_nf (by decide), aU_eq, g3 30 (by omega)]
    · intro i hi
      have hi : i < 12 := hi
      show aU (aU A5 41 5 (A 1 5)) 41 6 (A 1 6) 71 i = A 31 i
      rw [w 71 (by decide), o5 71 (by omega), ← h4, aF_nf (by decide), aF_nf (by decide), aF_nf (by decide), aF_nf (by decide), aF_nf (by decide), aF_ef, cpF_in hi, g3 31 (by omega)]
    · intro i hi
      have hi : i < 12 := hi
      show aU (aU A5 41 5 (A 1 5)) 41 6 (A 1 6) 72 i = A 32 i
      rw [w 72 (by decide), o5 72 (by omega), ← h4, aF_nf (by decide), aF_nf (by decide), aF_nf (by decide), aF_nf (by decide), aF_ef, cpF_in hi, g3 32 (by omega)]
    · intro i hi
      have hi : i < 48 := hi
      show aU (aU A5 41 5 (A 1 5)) 41 6 (A 1 6) 73 i = A 33 i
      rw [w 73 (by decide), o5 73 (by omega), ← h4, aF_nf (by decide), aF_nf (by decide), aF_nf (by decide), aF_ef, cpF_in hi, g3 33 (by omega)]
    · intro i hi
      have hi : i < 48 := hi
      show aU (aU A5 41 5 (A 1 5)) 41 6 (A 1 6) 74 i = A 34 i
      rw [w 74 (by decide), o5 74 (by omega), ← h4, aF_nf (by decide), aF_nf (by decide), aF_ef, cpF_in hi, g3 34 (by omega)]
    · intro i hi
      have hi : i < 48 := hi
      show aU (aU A5 41 5 (A 1 5)) 41 6 (A 1 6) 75 i = A 35 i
      rw [w 75 (by decide), o5 75 (by omega), ← h4, aF_nf (by decide), aF_ef, cpF_in hi, g3 35 (by omega)]
    · intro i hi
      have hi : i < 48 := hi
      show aU (aU A5 41 5 (A 1 5)) 41 6 (A 1 6) 76 i = A 36 i
      rw [w 76 (by decide), o5 76 (by omega), ← h4, aF_ef, cpF_in hi, g3 36 (by omega)]
    · intro i hi
      have hi : i < 1 := hi
      obtain rfl : i = 0 := by omega
      show aU (aU A5 41 5 (A 1 5)) 41 6 (A 1 6) 78 0 = A 38 0
      rw [w 78 (by decide), ← h5, aF_nf (by decide), aU_eq, g4 38 (by omega)]
    · intro i hi
      have hi : i < 300 := hi
      show aU (aU A5 41 5 (A 1 5)) 41 6 (A 1 6) 79 i = A 39 i
      rw [w 79 (by decide), ← h5, aF_ef, cpF_in hi, g4 39 (by omega)]
  · have z5 := g5 1 (by omega)
    rw [e_116 (by omega)]
    simp (disch := first | omega | assumption | exact mOk_int | exact mOk_null | exact mOk_ref | (simp (disch := omega) only [aF_ef, aF_nf, aU_ne, aU_eq, aU_ne2]; first | done | omega | assumption)) only [k_116_0, al_0, gq_0, gq_1, gq_2, gq_3, gq_4, al_1, q_callV1, q_getI, q_putI, r_vret, kd_0, kd_1, kd_2, kd_3, kd_4, kd_5, ln_0, ln_1, ln_2, ln_3, ln_4, ln_5, Option.some.injEq, Value.int.injEq, Value.ref.injEq, Value.long.injEq, Prod.mk.injEq, exists_eq_left', exists_eq_left, true_and, and_true, mLk, Option.any_some, mC1, Value.category, Option.toList_some, Option.toList_none, List.nil_append, List.cons_append, List.length_cons, List.length_nil, ne_eq, Nat.reduceEqDiff, not_false_eq_true, reduceCtorEq, exists_and_left, exists_and_right, Nat.reduceLeDiff, Nat.reduceAdd, and_self, exists_eq, exists_eq_right, exists_const, eq_self, exists_eq', not_true_eq_false, false_implies, true_implies, implies_true, forall_const, or_true, true_or, false_or, or_false, and_false, false_and, if_true, if_false, ite_true, ite_false, mB, mOk_int, mOk_ref, mOk_null, mOk_long, Nat.reduceLT, Nat.reduceSub, Nat.reduceMul, Nat.reduceDiv, Nat.reduceMod, Classical.not_not, ↓reduceIte, Nat.zero_add, Nat.add_zero, Nat.add_sub_cancel, Bool.false_eq_true, tN_l, tN_m1, tN_n1, tN_n8, tN_dec, tN_dec8, aF_ef, aF_nf, aF_U, tN_lt, tN_le, tN_inj, tN_add, tN_mul, tN_sub, tN_and, tN_or, tN_xor, tN_and31, tN_clamp, tN_in, tN_div, nm_rem, tN_shl, tN_shr, tN_b2, nd_lt, nd_nlt, nd_le, nd_nle, nd_eq, nd_ne, mN_at, mN_U, aU_ne, aU_eq, aU_ne2, e1, e2, e3, e4, e5, z5]

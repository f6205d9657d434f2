set_option maxRecDepth 20000
set_option maxHeartbeats 4000000
/-! MODEL: one token -/
def moE (b : Nat → Nat) (L t : Nat) : Nat := if t < L then lxE b L t else t
def moS (b : Nat → Nat) (L t : Nat) : Nat := if t < L then (if cyL (b t) = true then 2 else if cyD (b t) = true then (if lxE b L t - t ≤ 3 then 3 else 1) else if cyS (b t) = true then 4 else 1) else 0
def moV (b : Nat → Nat) (L t : Nat) : Nat := if t < L then (if cyL (b t) = true then b t else if cyD (b t) = true then numN b t (min (lxE b L t - t) 3) else b t) else 4294967295
def moG (b : Nat → Nat) (L t : Nat) : Int64 := if t < L then (if cyL (b t) = true then (if lxE b L t - t ≤ 8 then tL (wdN b t (lxE b L t - t)) else 0) else 0) else 0
theorem rE_1 {p : Nat → Bool} {b : Nat → Nat} {L i : Nat} (h : i < L) (c : p (b i) = true) : rE p b L i (L - i) = rE p b L (i + 1) (L - (i + 1)) := by
  rw [show L - i = (L - (i + 1)) + 1 by omega, rE, if_pos ⟨h, c⟩]
theorem l_154 {X : mX} {D : Nat} {cap : Nat × Nat} {P : mPost} {G : mG} {A : Nat → Nat → Nat} {b : Nat → Nat} {t g s v : Nat} (hD : 1 ≤ D) (hL : A 185 31 ≤ 300) (ht : t ≤ A 185 31) (hb : ∀ i, i < A 185 31 → b i < 256 ∧ A 186 i = sb (b i)) (hn : t < A 185 31 → cyB (b t) = false) : mW (mCall X D) X cap 154 P 0 [.ref 185, .null, .null] [] (mN (moW A t g s v), RF, G, mSh) = P none (mN (moW A (moE b (A 185 31) t) t (moS b (A 185 31) t) (moV b (A 185 31) t)), RF, mV G 185 35 (moG b (A 185 31) t), mSh) := by
  have e155 := fun P' G g s v => m_155 (X := X) (D := D) (P := P') (G := G) (A := A) (b := b) (a := t) (g := g) (s := s) (v := v) hD hL (by omega) hb
  unfold moE moS moV moG
  by_cases c : t < A 185 31
  · obtain ⟨h1, h2⟩ := hb t c
    have nb := hn c
    unfold cyB at nb
    rw [Bool.or_eq_false_iff, decide_eq_false_iff_not, decide_eq_false_iff_not] at nb
    obtain ⟨n1, n2⟩ := nb
    have ee : seB b (A 185 31) t = b t := by unfold seB; rw [if_pos c]
    have e124 := fun P' σ lo hi (hl : lo < 2147483648) (hh : hi < 2147483648) => m_124 (X := X) (D := D) (P := P') (σ := σ) (v := b t) (lo := lo) (hi := hi) hD (by omega) hl hh
    rw [if_pos c, if_pos c, if_pos c, if_pos c]
    by_cases c1 : cyL (b t) = true
    · have d1 : 97 ≤ b t ∧ b t ≤ 122 := by
        unfold cyL at c1
        rw [Bool.and_eq_true, decide_eq_true_eq, decide_eq_true_eq] at c1
        exact ⟨c1.1, by omega⟩
      have l := l_154w (X := X) (D := D) (cap := cap) (P := P) (G := G) (A := A) (b := b) (f := t) (g := t) (s := s) (v := b t) (u1 := .int (tN (b t))) hD hL hb (A 185 31 - t) 0 (by omega)
      have le : lxE b (A 185 31) t = rE cyL b (A 185 31) t (A 185 31 - t) := by unfold lxE; rw [if_pos c1, rE_1 c c1]
      rw [if_pos c1, if_pos c1, if_pos c1, le, kh_154_0]
      rw [Nat.add_zero] at l
      rw [← l]
      simp (disch := first | omega | assumption | exact mOk_int | exact mOk_null | exact mOk_ref | (simp (disch := omega) only [aF_ef, aF_nf, aU_ne, aU_eq, aU_ne2]; first | done | omega | assumption)) only [k_154_0, k_154_1, k_154_2, k_154_3, al_0, q_callV0, r_push, ri_iceq, ri_icne, r_dup, q_getI, r_iadd, q_putI, r_goto, is_1, il_1, q_putL, is_2, ri_ifge, r_callS3, ri_ifeq, q_getL, r_lshl, r_i2l, r_lor, ii_2, il_2, ri_icle, ri_icge, r_imul, r_isub, r_vret, kd_0, kd_1, kd_2, kd_3, kd_4, kd_5, ln_0, ln_1, ln_2, ln_3, ln_4, ln_5, Option.some.injEq, Value.int.injEq, Value.ref.injEq, Value.long.injEq, Prod.mk.injEq, exists_eq_left', exists_eq_left, true_and, and_true, mLk, Option.any_some, mC1, Value.category, Option.toList_some, Option.toList_none, List.nil_append, List.cons_append, List.length_cons, List.length_nil, ne_eq, Nat.reduceEqDiff, not_false_eq_true, reduceCtorEq, exists_and_left, exists_and_right, Nat.reduceLeDiff, Nat.reduceAdd, and_self, exists_eq, exists_eq_right, exists_const, eq_self, exists_eq', not_true_eq_false, false_implies, true_implies, implies_true, forall_const, or_true, true_or, false_or, or_false, and_false, false_and, if_true, if_false, ite_true, ite_false, mB, mOk_int, mOk_ref, mOk_null, mOk_long, Nat.reduceLT, Nat.reduceSub, Nat.reduceMul, Nat.reduceDiv, Nat.reduceMod, Classical.not_not, ↓reduceIte, Nat.zero_add, Nat.add_zero, Nat.add_sub_cancel, Bool.false_eq_true, tN_l, tN_m1, tN_n1, tN_n8, tN_dec, tN_dec8, aF_ef, aF_nf, aF_U, tN_lt, tN_le, tN_inj, tN_add, tN_mul, tN_sub, tN_and, tN_or, tN_xor, tN_and31, tN_clamp, tN_in, tN_div, nm_rem, tN_shl, tN_shr, tN_b2, nd_lt, nd_nlt, nd_le, nd_nle, nd_eq, nd_ne, mN_at, mN_U, aU_ne, aU_eq, aU_ne2, e155, ee, e124, n1, n2, d1, mo_30, mw_32, mw_34]
      rfl
    · have d1 : ¬ (97 ≤ b t ∧ b t ≤ 122) := by
        intro z
        apply c1
        unfold cyL
        rw [Bool.and_eq_true, decide_eq_true_eq, decide_eq_true_eq]
        omega
      rw [if_neg c1, if_neg c1, if_neg c1]
      by_cases c2 : cyD (b t) = true
      · have d2 : 48 ≤ b t ∧ b t ≤ 57 := by
          unfold cyD at c2
          rw [Bool.and_eq_true, decide_eq_true_eq, decide_eq_true_eq] at c2
          exact ⟨c2.1, by omega⟩
        have l := l_154d (X := X) (D := D) (cap := cap) (P := P) (G := mV G 185 35 0) (A := A) (b := b) (f := t) (g := t) (s := s) (u1 := .int (tN (b t))) hD hL hb (A 185 31 - t) 0 (by omega) (fun i hi => absurd hi (by omega))
        have le : lxE b (A 185 31) t = rE cyD b (A 185 31) t (A 185 31 - t) := by unfold lxE; rw [if_neg c1, if_pos c2, rE_1 c c2]
        rw [if_pos c2, if_pos c2, le, kh_154_0]
        rw [Nat.add_zero] at l
        rw [← l]
        simp (disch := first | omega | assumption | exact mOk_int | exact mOk_null | exact mOk_ref | (simp (disch := omega) only [aF_ef, aF_nf, aU_ne, aU_eq, aU_ne2]; first | done | omega | assumption)) only [k_154_0, k_154_1, k_154_2, k_154_3, al_0, q_callV0, r_push, ri_iceq, ri_icne, r_dup, q_getI, r_iadd, q_putI, r_goto, is_1, il_1, q_putL, is_2, ri_ifge, r_callS3, ri_ifeq, q_getL, r_lshl, r_i2l, r_lor, ii_2, il_2, ri_icle, ri_icge, r_imul, r_isub, r_vret, kd_0, kd_1, kd_2, kd_3, kd_4, kd_5, ln_0, ln_1, ln_2, ln_3, ln_4, ln_5, Option.some.injEq, Value.int.injEq, Value.ref.injEq, Value.long.injEq, Prod.mk.injEq, exists_eq_left', exists_eq_left, true_and, and_true, mLk, Option.any_some, mC1, Value.category, Option.toList_some, Option.toList_none, List.nil_append, List.cons_append, List.length_cons, List.length_nil, ne_eq, Nat.reduceEqDiff, not_false_eq_true, reduceCtorEq, exists_and_left, exists_and_right, Nat.reduceLeDiff, Nat.reduceAdd, and_self, exists_eq, exists_eq_right, exists_const, eq_self, exists_eq', not_true_eq_false, false_implies, true_implies, implies_true, forall_const, or_true, true_or, false_or, or_false, and_false, false_and, if_true, if_false, ite_true, ite_false, mB, mOk_int, mOk_ref, mOk_null, mOk_long, Nat.reduceLT, Nat.reduceSub, Nat.reduceMul, Nat.reduceDiv, Nat.reduceMod, Classical.not_not, ↓reduceIte, Nat.zero_add, Nat.add_zero, Nat.add_sub_cancel, Bool.false_eq_true, tN_l, tN_m1, tN_n1, tN_n8, tN_dec, tN_dec8, aF_ef, aF_nf, aF_U, tN_lt, tN_le, tN_inj, tN_add, tN_mul, tN_sub, tN_and, tN_or, tN_xor, tN_and31, tN_clamp, tN_in, tN_div, nm_rem, tN_shl, tN_shr, tN_b2, nd_lt, nd_nlt, nd_le, nd_nle, nd_eq, nd_ne, mN_at, mN_U, aU_ne, aU_eq, aU_ne2, e155, ee, e124, n1, n2, d1, d2, mo_30, mw_32, mw_34]
        rfl
      · sorry
  · have ee : seB b (A 185 31) t = 4294967295 := by unfold seB; rw [if_neg c]
    rw [if_neg c, if_neg c, if_neg c, if_neg c, kh_154_0]
    simp (disch := first | omega | assumption | exact mOk_int | exact mOk_null | exact mOk_ref | (simp (disch := omega) only [aF_ef, aF_nf, aU_ne, aU_eq, aU_ne2]; first | done | omega | assumption)) only [k_154_0, k_154_1, k_154_2, k_154_3, al_0, q_callV0, r_push, ri_iceq, ri_icne, r_dup, q_getI, r_iadd, q_putI, r_goto, is_1, il_1, q_putL, is_2, ri_ifge, r_callS3, ri_ifeq, q_getL, r_lshl, r_i2l, r_lor, ii_2, il_2, ri_icle, ri_icge, r_imul, r_isub, r_vret, kd_0, kd_1, kd_2, kd_3, kd_4, kd_5, ln_0, ln_1, ln_2, ln_3, ln_4, ln_5, Option.some.injEq, Value.int.injEq, Value.ref.injEq, Value.long.injEq, Prod.mk.injEq, exists_eq_left', exists_eq_left, true_and, and_true, mLk, Option.any_some, mC1, Value.category, Option.toList_some, Option.toList_none, List.nil_append, List.cons_append, List.length_cons, List.length_nil, ne_eq, Nat.reduceEqDiff, not_false_eq_true, reduceCtorEq, exists_and_left, exists_and_right, Nat.reduceLeDiff, Nat.reduceAdd, and_self, exists_eq, exists_eq_right, exists_const, eq_self, exists_eq', not_true_eq_false, false_implies, true_implies, implies_true, forall_const, or_true, true_or, false_or, or_false, and_false, false_and, if_true, if_false, ite_true, ite_false, mB, mOk_int, mOk_ref, mOk_null, mOk_long, Nat.reduceLT, Nat.reduceSub, Nat.reduceMul, Nat.reduceDiv, Nat.reduceMod, Classical.not_not, ↓reduceIte, Nat.zero_add, Nat.add_zero, Nat.add_sub_cancel, Bool.false_eq_true, tN_l, tN_m1, tN_n1, tN_n8, tN_dec, tN_dec8, aF_ef, aF_nf, aF_U, tN_lt, tN_le, tN_inj, tN_add, tN_mul, tN_sub, tN_and, tN_or, tN_xor, tN_and31, tN_clamp, tN_in, tN_div, nm_rem, tN_shl, tN_shr, tN_b2, nd_lt, nd_nlt, nd_le, nd_nle, nd_eq, nd_ne, mN_at, mN_U, aU_ne, aU_eq, aU_ne2, e155, ee, mo_30, mw_32, mw_33, mw_34]

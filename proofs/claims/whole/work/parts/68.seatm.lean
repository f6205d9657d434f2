set_option maxRecDepth 20000
set_option maxHeartbeats 4000000
/-! MODEL: seat -/
def seA (C : Nat → Nat → Nat) (p r l : Nat → Nat) (q : Nat) : Nat → Nat → Nat := fun c i => if c = 200 then p i else if c = 201 then r i else if c = 203 then l i else if c = 202 then (if i = 0 then q else C 202 i) else C c i
section
variable {C : Nat → Nat → Nat} {p r l : Nat → Nat} {q : Nat}
theorem se_200 : seA C p r l q 200 = p := rfl
theorem se_201 : seA C p r l q 201 = r := rfl
theorem se_203 : seA C p r l q 203 = l := rfl
theorem se_202 : seA C p r l q 202 0 = q := rfl
theorem se_o {c : Nat} (h : c ≠ 200 ∧ c ≠ 201 ∧ c ≠ 202 ∧ c ≠ 203) : seA C p r l q c = C c := by
  funext i
  unfold seA
  rw [if_neg h.1, if_neg h.2.1, if_neg h.2.2.2, if_neg h.2.2.1]
theorem sw_200 {i v : Nat} : aU (seA C p r l q) 200 i v = seA C (up p i v) r l q := by
  rw [aU_aF]
  funext c j
  unfold aF seA up
  by_cases e : c = 200
  · simp only [e, if_true]
  · simp only [e, if_false]
theorem sf_200 {g : Nat → Nat} : aF (seA C p r l q) 200 g = seA C g r l q := by
  funext c j
  unfold aF seA
  by_cases e : c = 200
  · simp only [e, if_true]
  · simp only [e, if_false]
theorem sw_201 {i v : Nat} : aU (seA C p r l q) 201 i v = seA C p (up r i v) l q := by
  rw [aU_aF]
  funext c j
  unfold aF seA up
  by_cases e : c = 201
  · simp only [e, if_true, show ¬ (201 : Nat) = 200 by decide, if_false]
  · simp only [e, if_false]
theorem sw_203 {i v : Nat} : aU (seA C p r l q) 203 i v = seA C p r (up l i v) q := by
  rw [aU_aF]
  funext c j
  unfold aF seA up
  by_cases e : c = 203
  · simp only [e, if_true, show ¬ (203 : Nat) = 200 by decide, show ¬ (203 : Nat) = 201 by decide, if_false]
  · simp only [e, if_false]
theorem sw_202 {v : Nat} : aU (seA C p r l q) 202 0 v = seA C p r l v := by
  rw [aU_aF]
  funext c j
  unfold aF seA
  by_cases e : c = 202
  · simp only [e, if_true, show ¬ (202 : Nat) = 200 by decide, show ¬ (202 : Nat) = 201 by decide, show ¬ (202 : Nat) = 203 by decide, if_false]
    by_cases d : j = 0
    · simp only [d, if_true]
    · simp only [d, if_false]
  · simp only [e, if_false]
theorem se_id : seA C (C 200) (C 201) (C 203) (C 202 0) = C := by
  funext c i
  unfold seA
  by_cases e1 : c = 200
  · rw [if_pos e1, e1]
  rw [if_neg e1]
  by_cases e2 : c = 201
  · rw [if_pos e2, e2]
  rw [if_neg e2]
  by_cases e3 : c = 203
  · rw [if_pos e3, e3]
  rw [if_neg e3]
  by_cases e4 : c = 202
  · rw [if_pos e4, e4]
    by_cases d : i = 0
    · rw [if_pos d, d]
    · rw [if_neg d]
  rw [if_neg e4]
end
section
variable (pr H T6 ord : Nat → Nat)
def sP (P0 : Nat → Nat) : Nat → Nat → Nat
  | 0 => P0
  | k + 1 => up (sP P0 k) (ord k) (psm pr (fun i => T6 (6 * ord k + i)) (H (ord k)))
def sR (R0 : Nat → Nat) : Nat → Nat → Nat
  | 0 => R0
  | k + 1 => up (sR R0 k) (ord k) 0
def sQ : Nat → Nat
  | 0 => 0
  | k + 1 => sQ k + (if H (ord k) = 0 then 1 else 0)
def sL (L0 : Nat → Nat) : Nat → Nat → Nat
  | 0 => L0
  | k + 1 => if H (ord k) = 0 then up (sL L0 k) (sQ H ord k) (ord k) else sL L0 k
end
theorem sQ_le {H ord : Nat → Nat} : ∀ k, sQ H ord k ≤ k
  | 0 => Nat.le_refl _
  | k + 1 => by
    have := sQ_le (H := H) (ord := ord) k
    unfold sQ
    split <;> omega
theorem ml_126 {X : mX} {D : Nat} {cap : Nat × Nat} {P : mPost} {G : mG} {C : Nat → Nat → Nat} {ord : Nat → Nat} {n way t ns : Nat} (hD : 1 ≤ D) (hn : C 193 0 = n) (hn2 : n ≤ 12) (ho : ∀ k, k < n → C 214 k = ord k ∧ ord k < n) (hH : ∀ a, a < n → C 212 a ≤ 6) (hT : ∀ a, a < n → ∀ k, k < C 212 a → C 213 (6 * a + k) / 100 < 6 ∧ C 213 (6 * a + k) < 600) : ∀ m k u, k + m = n → mOk u = true → mW (mCall X D) X cap 126 P 48 [.ref 185, .int (tN way), .int (tN t), .int (tN ns), .int (tN k), u] [] (mN (seA C (sP (C 192) (C 212) (C 213) ord (C 200) k) (sR ord (C 201) k) (sL (C 212) ord (C 203) k) (sQ (C 212) ord k)), RF, G, mSh) = P (some (.int (tN (ns)))) (mN (seA C (sP (C 192) (C 212) (C 213) ord (C 200) n) (sR ord (C 201) n) (sL (C 212) ord (C 203) n) (sQ (C 212) ord n)), RF, G, mSh) := by
  intro m
  induction m with
  | zero =>
    intro k u e gu
    obtain rfl : k = n := by omega
    rw [kh_126_48]
    simp (disch := first | omega | assumption | exact mOk_int | exact mOk_null | exact mOk_ref | (simp (disch := omega) only [aF_ef, aF_nf, aU_ne, aU_eq, aU_ne2]; first | done | omega | assumption)) only [k_126_0, k_126_1, al_0, r_push, q_putI, gq_0, gq_1, gq_2, gq_3, gq_4, q_bald, ri_ifne, il_1, il_2, q_callV2, r_iret, q_callV1, is_3, q_bast, q_iast, is_4, il_4, q_iald, ri_icge, is_5, il_5, r_dup2, r_iadd, ii_4, r_goto, il_3, kd_0, kd_1, kd_2, kd_3, kd_4, kd_5, ln_0, ln_1, ln_2, ln_3, ln_4, ln_5, Option.some.injEq, Value.int.injEq, Value.ref.injEq, Value.long.injEq, Prod.mk.injEq, exists_eq_left', exists_eq_left, true_and, and_true, mLk, Option.any_some, mC1, Value.category, Option.toList_some, Option.toList_none, List.nil_append, List.cons_append, List.length_cons, List.length_nil, ne_eq, Nat.reduceEqDiff, not_false_eq_true, reduceCtorEq, exists_and_left, exists_and_right, Nat.reduceLeDiff, Nat.reduceAdd, and_self, exists_eq, exists_eq_right, exists_const, eq_self, exists_eq', not_true_eq_false, false_implies, true_implies, implies_true, forall_const, or_true, true_or, false_or, or_false, and_false, false_and, if_true, if_false, ite_true, ite_false, mB, mOk_int, mOk_ref, mOk_null, mOk_long, Nat.reduceLT, Nat.reduceSub, Nat.reduceMul, Nat.reduceDiv, Nat.reduceMod, Classical.not_not, ↓reduceIte, Nat.zero_add, Nat.add_zero, Nat.add_sub_cancel, Bool.false_eq_true, tN_l, tN_m1, tN_n1, tN_n8, tN_dec, tN_dec8, aF_ef, aF_nf, aF_U, tN_lt, tN_le, tN_inj, tN_add, tN_mul, tN_sub, tN_and, tN_or, tN_xor, tN_and31, tN_clamp, tN_in, tN_div, nm_rem, tN_shl, tN_shr, tN_b2, nd_lt, nd_nlt, nd_le, nd_nle, nd_eq, nd_ne, mN_at, mN_U, aU_ne, aU_eq, aU_ne2, se_o, hn]
  | succ m ih =>
    intro k u e gu
    obtain ⟨o1, o2⟩ := ho k (by omega)
    have h1 := hH _ o2
    have h2 := hT _ o2
    have hq := sQ_le (H := C 212) (ord := ord) k
    have ih' := ih (k + 1) (.int (tN (ord k))) (by omega) mOk_int
    rw [kh_126_48]
    by_cases c : C 212 (ord k) = 0
    · have e140 := fun P' => m_140 (X := X) (D := D) (P := P') (G := G) (A := seA C (up (sP (C 192) (C 212) (C 213) ord (C 200) k) (ord k) 0) (up (sR ord (C 201) k) (ord k) 0) (up (sL (C 212) ord (C 203) k) (sQ (C 212) ord k) (ord k)) (sQ (C 212) ord k + 1)) (a := ord k) hD (by omega) (by rw [se_o (by decide)]; exact h1) (by rw [se_o (show (212 : Nat) ≠ 200 ∧ (212 : Nat) ≠ 201 ∧ (212 : Nat) ≠ 202 ∧ (212 : Nat) ≠ 203 by decide), se_o (show (213 : Nat) ≠ 200 ∧ (213 : Nat) ≠ 201 ∧ (213 : Nat) ≠ 202 ∧ (213 : Nat) ≠ 203 by decide)]; exact h2)
      rw [sf_200, se_200, se_o (show (192 : Nat) ≠ 200 ∧ (192 : Nat) ≠ 201 ∧ (192 : Nat) ≠ 202 ∧ (192 : Nat) ≠ 203 by decide), se_o (show (212 : Nat) ≠ 200 ∧ (212 : Nat) ≠ 201 ∧ (212 : Nat) ≠ 202 ∧ (212 : Nat) ≠ 203 by decide), se_o (show (213 : Nat) ≠ 200 ∧ (213 : Nat) ≠ 201 ∧ (213 : Nat) ≠ 202 ∧ (213 : Nat) ≠ 203 by decide), up_up, up_eq, Nat.zero_add] at e140
      simp only [sP, sR, sL, sQ, c, if_true] at ih'
      rw [c] at e140
      simp (disch := first | omega | assumption | exact mOk_int | exact mOk_null | exact mOk_ref | (simp (disch := omega) only [aF_ef, aF_nf, aU_ne, aU_eq, aU_ne2]; first | done | omega | assumption)) only [k_126_0, k_126_1, al_0, r_push, q_putI, gq_0, gq_1, gq_2, gq_3, gq_4, q_bald, ri_ifne, il_1, il_2, q_callV2, r_iret, q_callV1, is_3, q_bast, q_iast, is_4, il_4, q_iald, ri_icge, is_5, il_5, r_dup2, r_iadd, ii_4, r_goto, il_3, kd_0, kd_1, kd_2, kd_3, kd_4, kd_5, ln_0, ln_1, ln_2, ln_3, ln_4, ln_5, Option.some.injEq, Value.int.injEq, Value.ref.injEq, Value.long.injEq, Prod.mk.injEq, exists_eq_left', exists_eq_left, true_and, and_true, mLk, Option.any_some, mC1, Value.category, Option.toList_some, Option.toList_none, List.nil_append, List.cons_append, List.length_cons, List.length_nil, ne_eq, Nat.reduceEqDiff, not_false_eq_true, reduceCtorEq, exists_and_left, exists_and_right, Nat.reduceLeDiff, Nat.reduceAdd, and_self, exists_eq, exists_eq_right, exists_const, eq_self, exists_eq', not_true_eq_false, false_implies, true_implies, implies_true, forall_const, or_true, true_or, false_or, or_false, and_false, false_and, if_true, if_false, ite_true, ite_false, mB, mOk_int, mOk_ref, mOk_null, mOk_long, Nat.reduceLT, Nat.reduceSub, Nat.reduceMul, Nat.reduceDiv, Nat.reduceMod, Classical.not_not, ↓reduceIte, Nat.zero_add, Nat.add_zero, Nat.add_sub_cancel, Bool.false_eq_true, tN_l, tN_m1, tN_n1, tN_n8, tN_dec, tN_dec8, aF_ef, aF_nf, aF_U, tN_lt, tN_le, tN_inj, tN_add, tN_mul, tN_sub, tN_and, tN_or, tN_xor, tN_and31, tN_clamp, tN_in, tN_div, nm_rem, tN_shl, tN_shr, tN_b2, nd_lt, nd_nlt, nd_le, nd_nle, nd_eq, nd_ne, mN_at, mN_U, aU_ne, aU_eq, aU_ne2, se_o, hn, o1, sw_200, sw_201, sw_203, sw_202, se_202, c, e140]
      exact ih'
    · have e140 := fun P' => m_140 (X := X) (D := D) (P := P') (G := G) (A := seA C (up (sP (C 192) (C 212) (C 213) ord (C 200) k) (ord k) 0) (up (sR ord (C 201) k) (ord k) 0) (sL (C 212) ord (C 203) k) (sQ (C 212) ord k)) (a := ord k) hD (by omega) (by rw [se_o (by decide)]; exact h1) (by rw [se_o (show (212 : Nat) ≠ 200 ∧ (212 : Nat) ≠ 201 ∧ (212 : Nat) ≠ 202 ∧ (212 : Nat) ≠ 203 by decide), se_o (show (213 : Nat) ≠ 200 ∧ (213 : Nat) ≠ 201 ∧ (213 : Nat) ≠ 202 ∧ (213 : Nat) ≠ 203 by decide)]; exact h2)
      rw [sf_200, se_200, se_o (show (192 : Nat) ≠ 200 ∧ (192 : Nat) ≠ 201 ∧ (192 : Nat) ≠ 202 ∧ (192 : Nat) ≠ 203 by decide), se_o (show (212 : Nat) ≠ 200 ∧ (212 : Nat) ≠ 201 ∧ (212 : Nat) ≠ 202 ∧ (212 : Nat) ≠ 203 by decide), se_o (show (213 : Nat) ≠ 200 ∧ (213 : Nat) ≠ 201 ∧ (213 : Nat) ≠ 202 ∧ (213 : Nat) ≠ 203 by decide), up_up, up_eq, Nat.zero_add] at e140
      simp only [sP, sR, sL, sQ, c, if_false, Nat.add_zero] at ih'
      simp (disch := first | omega | assumption | exact mOk_int | exact mOk_null | exact mOk_ref | (simp (disch := omega) only [aF_ef, aF_nf, aU_ne, aU_eq, aU_ne2]; first | done | omega | assumption)) only [k_126_0, k_126_1, al_0, r_push, q_putI, gq_0, gq_1, gq_2, gq_3, gq_4, q_bald, ri_ifne, il_1, il_2, q_callV2, r_iret, q_callV1, is_3, q_bast, q_iast, is_4, il_4, q_iald, ri_icge, is_5, il_5, r_dup2, r_iadd, ii_4, r_goto, il_3, kd_0, kd_1, kd_2, kd_3, kd_4, kd_5, ln_0, ln_1, ln_2, ln_3, ln_4, ln_5, Option.some.injEq, Value.int.injEq, Value.ref.injEq, Value.long.injEq, Prod.mk.injEq, exists_eq_left', exists_eq_left, true_and, and_true, mLk, Option.any_some, mC1, Value.category, Option.toList_some, Option.toList_none, List.nil_append, List.cons_append, List.length_cons, List.length_nil, ne_eq, Nat.reduceEqDiff, not_false_eq_true, reduceCtorEq, exists_and_left, exists_and_right, Nat.reduceLeDiff, Nat.reduceAdd, and_self, exists_eq, exists_eq_right, exists_const, eq_self, exists_eq', not_true_eq_false, false_implies, true_implies, implies_true, forall_const, or_true, true_or, false_or, or_false, and_false, false_and, if_true, if_false, ite_true, ite_false, mB, mOk_int, mOk_ref, mOk_null, mOk_long, Nat.reduceLT, Nat.reduceSub, Nat.reduceMul, Nat.reduceDiv, Nat.reduceMod, Classical.not_not, ↓reduceIte, Nat.zero_add, Nat.add_zero, Nat.add_sub_cancel, Bool.false_eq_true, tN_l, tN_m1, tN_n1, tN_n8, tN_dec, tN_dec8, aF_ef, aF_nf, aF_U, tN_lt, tN_le, tN_inj, tN_add, tN_mul, tN_sub, tN_and, tN_or, tN_xor, tN_and31, tN_clamp, tN_in, tN_div, nm_rem, tN_shl, tN_shr, tN_b2, nd_lt, nd_nlt, nd_le, nd_nle, nd_eq, nd_ne, mN_at, mN_U, aU_ne, aU_eq, aU_ne2, se_o, hn, o1, sw_200, sw_201, c, e140]
      exact ih'
theorem m_126n {X : mX} {D : Nat} {P : mPost} {A : Nat → Nat → Nat} {G : mG} {way t : Nat} (hD : 3 ≤ D) (hw : way < 4294967296) (ht : t < 4294967296) (hn : A 193 0 ≤ 12) (hs : A 198 0 ≤ 1) (h : ¬ (A 198 0 = 0 ∧ okW (A 193 0) way t)) : mCall X D 126 [.ref 185, .int (tN way), .int (tN t)] (mN A, RF, G, mSh) P = P (some (.int (tN (4294967295)))) (mN (aU A 185 0 0), RF, G, mSh) := by
  rw [e_126 (by omega)]
  by_cases c : A 198 0 = 0
  · have e1 := fun P' => m_127n (X := X) (D := D - 1) (P := P') (G := G) (A := aU A 185 0 0) (way := way) (t := t) (by omega) (by rw [zA (by decide)]; exact hn) hw ht (by rw [zA (by decide)]; exact fun z => h ⟨c, z⟩)
    simp (disch := first | omega | assumption | exact mOk_int | exact mOk_null | exact mOk_ref | (simp (disch := omega) only [aF_ef, aF_nf, aU_ne, aU_eq, aU_ne2]; first | done | omega | assumption)) only [k_126_0, k_126_1, al_0, r_push, q_putI, gq_0, gq_1, gq_2, gq_3, gq_4, q_bald, ri_ifne, il_1, il_2, q_callV2, r_iret, q_callV1, is_3, q_bast, q_iast, is_4, il_4, q_iald, ri_icge, is_5, il_5, r_dup2, r_iadd, ii_4, r_goto, il_3, kd_0, kd_1, kd_2, kd_3, kd_4, kd_5, ln_0, ln_1, ln_2, ln_3, ln_4, ln_5, Option.some.injEq, Value.int.injEq, Value.ref.injEq, Value.long.injEq, Prod.mk.injEq, exists_eq_left', exists_eq_left, true_and, and_true, mLk, Option.any_some, mC1, Value.category, Option.toList_some, Option.toList_none, List.nil_append, List.cons_append, List.length_cons, List.length_nil, ne_eq, Nat.reduceEqDiff, not_false_eq_true, reduceCtorEq, exists_and_left, exists_and_right, Nat.reduceLeDiff, Nat.reduceAdd, and_self, exists_eq, exists_eq_right, exists_const, eq_self, exists_eq', not_true_eq_false, false_implies, true_implies, implies_true, forall_const, or_true, true_or, false_or, or_false, and_false, false_and, if_true, if_false, ite_true, ite_false, mB, mOk_int, mOk_ref, mOk_null, mOk_long, Nat.reduceLT, Nat.reduceSub, Nat.reduceMul, Nat.reduceDiv, Nat.reduceMod, Classical.not_not, ↓reduceIte, Nat.zero_add, Nat.add_zero, Nat.add_sub_cancel, Bool.false_eq_true, tN_l, tN_m1, tN_n1, tN_n8, tN_dec, tN_dec8, aF_ef, aF_nf, aF_U, tN_lt, tN_le, tN_inj, tN_add, tN_mul, tN_sub, tN_and, tN_or, tN_xor, tN_and31, tN_clamp, tN_in, tN_div, nm_rem, tN_shl, tN_shr, tN_b2, nd_lt, nd_nlt, nd_le, nd_nle, nd_eq, nd_ne, mN_at, mN_U, aU_ne, aU_eq, aU_ne2, c, e1]
  · simp (disch := first | omega | assumption | exact mOk_int | exact mOk_null | exact mOk_ref | (simp (disch := omega) only [aF_ef, aF_nf, aU_ne, aU_eq, aU_ne2]; first | done | omega | assumption)) only [k_126_0, k_126_1, al_0, r_push, q_putI, gq_0, gq_1, gq_2, gq_3, gq_4, q_bald, ri_ifne, il_1, il_2, q_callV2, r_iret, q_callV1, is_3, q_bast, q_iast, is_4, il_4, q_iald, ri_icge, is_5, il_5, r_dup2, r_iadd, ii_4, r_goto, il_3, kd_0, kd_1, kd_2, kd_3, kd_4, kd_5, ln_0, ln_1, ln_2, ln_3, ln_4, ln_5, Option.some.injEq, Value.int.injEq, Value.ref.injEq, Value.long.injEq, Prod.mk.injEq, exists_eq_left', exists_eq_left, true_and, and_true, mLk, Option.any_some, mC1, Value.category, Option.toList_some, Option.toList_none, List.nil_append, List.cons_append, List.length_cons, List.length_nil, ne_eq, Nat.reduceEqDiff, not_false_eq_true, reduceCtorEq, exists_and_left, exists_and_right, Nat.reduceLeDiff, Nat.reduceAdd, and_self, exists_eq, exists_eq_right, exists_const, eq_self, exists_eq', not_true_eq_false, false_implies, true_implies, implies_true, forall_const, or_true, true_or, false_or, or_false, and_false, false_and, if_true, if_false, ite_true, ite_false, mB, mOk_int, mOk_ref, mOk_null, mOk_long, Nat.reduceLT, Nat.reduceSub, Nat.reduceMul, Nat.reduceDiv, Nat.reduceMod, Classical.not_not, ↓reduceIte, Nat.zero_add, Nat.add_zero, Nat.add_sub_cancel, Bool.false_eq_true, tN_l, tN_m1, tN_n1, tN_n8, tN_dec, tN_dec8, aF_ef, aF_nf, aF_U, tN_lt, tN_le, tN_inj, tN_add, tN_mul, tN_sub, tN_and, tN_or, tN_xor, tN_and31, tN_clamp, tN_in, tN_div, nm_rem, tN_shl, tN_shr, tN_b2, nd_lt, nd_nlt, nd_le, nd_nle, nd_eq, nd_ne, mN_at, mN_U, aU_ne, aU_eq, aU_ne2, c]
/-- the model's hall, filled -/
def fiM (A : Nat → Nat → Nat) (F0 ord : Nat → Nat) : Nat → Nat → Nat := flA (tuM A ord) 0 F0 ord (A 193 0)
def seM (A : Nat → Nat → Nat) (F0 ord : Nat → Nat) : Nat → Nat → Nat := seA (aU (aU (fiM A F0 ord) 198 0 1) 202 0 0) (sP (A 192) (fiM A F0 ord 212) (fiM A F0 ord 213) ord (A 200) (A 193 0)) (sR ord (A 201) (A 193 0)) (sL (fiM A F0 ord 212) ord (A 203) (A 193 0)) (sQ (fiM A F0 ord 212) ord (A 193 0))
theorem fiM_o {A : Nat → Nat → Nat} {F0 ord : Nat → Nat} {c : Nat} (h1 : c ≠ 185) (h2 : c ≠ 211) (h3 : c ≠ 212) (h4 : c ≠ 213) (h5 : c ≠ 214) : fiM A F0 ord c = A c := by
  unfold fiM
  rw [flA_o h2 h3 h4, tuM_o h1 h5]
theorem m_126 {X : mX} {D : Nat} {P : mPost} {A : Nat → Nat → Nat} {G : mG} {O F0 : Nat → Nat} {way t : Nat} (hD : 7 ≤ D) (ok : okM A) (h0 : A 198 0 = 0) (hk : okW (A 193 0) way t) (hF : ∀ r, r < A 190 0 → F0 r = 1 <<< A 191 r - 1) (hH : ∀ a, a < A 193 0 → fiM A F0 (ordW (A 195) (A 193 0) way t O) 212 a ≤ 6) (hT : ∀ a, a < A 193 0 → ∀ k, k < fiM A F0 (ordW (A 195) (A 193 0) way t O) 212 a → fiM A F0 (ordW (A 195) (A 193 0) way t O) 213 (6 * a + k) / 100 < 6 ∧ fiM A F0 (ordW (A 195) (A 193 0) way t O) 213 (6 * a + k) < 600) : mCall X D 126 [.ref 185, .int (tN way), .int (tN t)] (mN A, RF, G, mSh) P = P (some (.int (tN (rnS (A 192) (A 190 0) (A 194) (A 195) (A 197) F0 (ordW (A 195) (A 193 0) way t O) (A 193 0))))) (mN (seM A F0 (ordW (A 195) (A 193 0) way t O)), RF, G, mSh) := by
  have e1 := fun P' => m_127 (X := X) (D := D - 1) (P := P') (G := G) (A := aU A 185 0 0) (O := O) (way := way) (t := t) (by omega) (by rw [zA (by decide)]; exact ok.2.2.2.1) (by rw [zA (by decide), zA (by decide)]; exact fun i hi => (ok.2.2.2.2 i hi).2.2.1) (by rw [zA (by decide)]; exact hk)
  rw [zA (by decide), zA (by decide), zA (by decide)] at e1
  obtain ⟨ho, hi⟩ := ordW_ok (mo := A 195) (O := O) hk
  generalize ordW (A 195) (A 193 0) way t O = ord at *
  have e1 := fun P' => (e1 P').trans (show _ = P' (some (.int (tN (1)))) (mN (tuM A ord), RF, G, mSh) from rfl)
  have o := fun c (h1 : c ≠ 185) (h2 : c ≠ 214) => tuM_o (A := A) (ord := ord) h1 h2
  have e2 := fun P' => m_131 (X := X) (D := D - 1) (P := P') (G := G) (A := tuM A ord) (h := 0) (F0 := F0) (ord := ord) (by omega) (by omega) (okM_cg (fun c h1 h2 => o c (by omega) (by omega)) ok) (by rw [o 190 (by decide) (by decide), o 191 (by decide) (by decide)]; exact hF) (by rw [o 193 (by decide) (by decide)]; exact fun k hk => ⟨tuM_214 hk, ho k hk⟩) (by rw [o 193 (by decide) (by decide)]; exact hi)
  rw [o 190 (by decide) (by decide), o 192 (by decide) (by decide), o 193 (by decide) (by decide), o 194 (by decide) (by decide), o 195 (by decide) (by decide), o 197 (by decide) (by decide)] at e2
  have e2 := fun P' => (e2 P').trans (show _ = P' (some (.int (tN (rnS (A 192) (A 190 0) (A 194) (A 195) (A 197) F0 ord (A 193 0))))) (mN (fiM A F0 ord), RF, G, mSh) from rfl)
  have q := fun c (h1 : c ≠ 185) (h2 : c ≠ 211) (h3 : c ≠ 212) (h4 : c ≠ 213) (h5 : c ≠ 214) => fiM_o (A := A) (F0 := F0) (ord := ord) h1 h2 h3 h4 h5
  have q214 : ∀ k, k < A 193 0 → fiM A F0 ord 214 k = ord k := fun k hk => by
    unfold fiM
    rw [flA_o (by decide) (by decide) (by decide), tuM_214 hk]
  have n4 := ok.2.2.2.1
  have z1 : ∀ c, c ≠ 198 → c ≠ 202 → aU (aU (fiM A F0 ord) 198 0 1) 202 0 0 c = fiM A F0 ord c := fun c h1 h2 => by rw [aU_aF, aU_aF, aF_nf h2, aF_nf h1]
  have l := ml_126 (X := X) (D := D - 1) (cap := (mSh.length + (mAl 126).fst, mSum mSh + (mAl 126).snd)) (P := P) (G := G) (C := aU (aU (fiM A F0 ord) 198 0 1) 202 0 0) (ord := ord) (n := A 193 0) (way := way) (t := t) (ns := rnS (A 192) (A 190 0) (A 194) (A 195) (A 197) F0 ord (A 193 0)) (by omega) (by rw [z1 193 (by decide) (by decide), q 193 (by decide) (by decide) (by decide) (by decide) (by decide)]) n4 (by rw [z1 214 (by decide) (by decide)]; exact fun k hk => ⟨q214 k hk, ho k hk⟩) (by rw [z1 212 (by decide) (by decide)]; exact hH) (by rw [z1 212 (by decide) (by decide), z1 213 (by decide) (by decide)]; exact hT) (A 193 0) 0 .null (by omega) mOk_null
  have w0 : seA (aU (aU (fiM A F0 ord) 198 0 1) 202 0 0) (aU (aU (fiM A F0 ord) 198 0 1) 202 0 0 200) (aU (aU (fiM A F0 ord) 198 0 1) 202 0 0 201) (aU (aU (fiM A F0 ord) 198 0 1) 202 0 0 203) 0 = aU (aU (fiM A F0 ord) 198 0 1) 202 0 0 := by
    have := se_id (C := aU (aU (fiM A F0 ord) 198 0 1) 202 0 0)
    rw [aU_eq] at this
    exact this
  rw [show sP (aU (aU (fiM A F0 ord) 198 0 1) 202 0 0 192) (aU (aU (fiM A F0 ord) 198 0 1) 202 0 0 212) (aU (aU (fiM A F0 ord) 198 0 1) 202 0 0 213) ord (aU (aU (fiM A F0 ord) 198 0 1) 202 0 0 200) 0 = aU (aU (fiM A F0 ord) 198 0 1) 202 0 0 200 from rfl, show sR ord (aU (aU (fiM A F0 ord) 198 0 1) 202 0 0 201) 0 = aU (aU (fiM A F0 ord) 198 0 1) 202 0 0 201 from rfl, show sL (aU (aU (fiM A F0 ord) 198 0 1) 202 0 0 212) ord (aU (aU (fiM A F0 ord) 198 0 1) 202 0 0 203) 0 = aU (aU (fiM A F0 ord) 198 0 1) 202 0 0 203 from rfl, show sQ (aU (aU (fiM A F0 ord) 198 0 1) 202 0 0 212) ord 0 = 0 from rfl, w0] at l
  rw [z1 192 (by decide) (by decide), z1 212 (by decide) (by decide), z1 213 (by decide) (by decide), z1 200 (by decide) (by decide), z1 201 (by decide) (by decide), z1 203 (by decide) (by decide), q 192 (by decide) (by decide) (by decide) (by decide) (by decide), q 200 (by decide) (by decide) (by decide) (by decide) (by decide), q 201 (by decide) (by decide) (by decide) (by decide) (by decide), q 203 (by decide) (by decide) (by decide) (by decide) (by decide)] at l
  have l2 := l.trans (show _ = P (some (.int (tN (rnS (A 192) (A 190 0) (A 194) (A 195) (A 197) F0 ord (A 193 0))))) (mN (seM A F0 ord), RF, G, mSh) from rfl)
  have q198 := q 198 (by decide) (by decide) (by decide) (by decide) (by decide)
  rw [e_126 (by omega)]
  generalize seM A F0 ord = C2 at *
  generalize fiM A F0 ord = C at *
  generalize tuM A ord = C3 at *
  simp (disch := first | omega | assumption | exact mOk_int | exact mOk_null | exact mOk_ref | (simp (disch := omega) only [aF_ef, aF_nf, aU_ne, aU_eq, aU_ne2]; first | done | omega | assumption)) only [k_126_0, k_126_1, al_0, r_push, q_putI, gq_0, gq_1, gq_2, gq_3, gq_4, q_bald, ri_ifne, il_1, il_2, q_callV2, r_iret, q_callV1, is_3, q_bast, q_iast, is_4, il_4, q_iald, ri_icge, is_5, il_5, r_dup2, r_iadd, ii_4, r_goto, il_3, kd_0, kd_1, kd_2, kd_3, kd_4, kd_5, ln_0, ln_1, ln_2, ln_3, ln_4, ln_5, Option.some.injEq, Value.int.injEq, Value.ref.injEq, Value.long.injEq, Prod.mk.injEq, exists_eq_left', exists_eq_left, true_and, and_true, mLk, Option.any_some, mC1, Value.category, Option.toList_some, Option.toList_none, List.nil_append, List.cons_append, List.length_cons, List.length_nil, ne_eq, Nat.reduceEqDiff, not_false_eq_true, reduceCtorEq, exists_and_left, exists_and_right, Nat.reduceLeDiff, Nat.reduceAdd, and_self, exists_eq, exists_eq_right, exists_const, eq_self, exists_eq', not_true_eq_false, false_implies, true_implies, implies_true, forall_const, or_true, true_or, false_or, or_false, and_false, false_and, if_true, if_false, ite_true, ite_false, mB, mOk_int, mOk_ref, mOk_null, mOk_long, Nat.reduceLT, Nat.reduceSub, Nat.reduceMul, Nat.reduceDiv, Nat.reduceMod, Classical.not_not, ↓reduceIte, Nat.zero_add, Nat.add_zero, Nat.add_sub_cancel, Bool.false_eq_true, tN_l, tN_m1, tN_n1, tN_n8, tN_dec, tN_dec8, aF_ef, aF_nf, aF_U, tN_lt, tN_le, tN_inj, tN_add, tN_mul, tN_sub, tN_and, tN_or, tN_xor, tN_and31, tN_clamp, tN_in, tN_div, nm_rem, tN_shl, tN_shr, tN_b2, nd_lt, nd_nlt, nd_le, nd_nle, nd_eq, nd_ne, mN_at, mN_U, aU_ne, aU_eq, aU_ne2, h0, e1, e2, vb_n]
  exact l2

set_option maxRecDepth 20000
set_option maxHeartbeats 4000000
/-! CLASS and MODEL: back -/
def bkL (B : Nat → Nat → Nat) : Nat → Nat → Nat := hallA B (B 10 0) (rnQ (B 4) (B 2 0) (B 6) (B 7) (B 9) (B 12) (B 11) (B 10 2)) (rnL (B 4) (B 2 0) (B 6) (B 7) (B 9) (B 12) (B 11) (B 11) (B 10 2)) (rnF (B 4) (B 2 0) (B 6) (B 7) (B 9) (B 12) (B 11) (B 10 2)) (rnH (B 4) (B 2 0) (B 6) (B 7) (B 9) (B 12) (B 11) (B 14) (B 10 2)) (rnP (B 4) (B 2 0) (B 6) (B 7) (B 9) (B 12) (B 11) (fun a => B (18 + a)) (B 15) (B 10 2)) (rnK (B 4) (B 2 0) (B 6) (B 7) (B 9) (B 12) (B 11) (fun a => B (18 + a)) (B 10 2))
theorem c_98' {X : mX} {D : Nat} {P : mPost} {A : Nat → Nat → Nat} {G : mG} (hD : 6 ≤ D) (ok : okA A) (hF : ∀ r, r < A 2 0 → A 12 r < 2 ^ A 3 r) (hn : A 10 2 ≤ 12) (ho : ∀ k, k < A 10 2 → A 11 k < A 5 0) : mCall X D 98 [.ref 10, .ref 2, .ref 5] (mN A, RF, G, mSh) P = P (some (.int (tN (A 10 2 - rnQ (A 4) (A 2 0) (A 6) (A 7) (A 9) (A 12) (A 11) (A 10 2))))) (mN (bkL A), RF, G, mSh) := by
  have := c_98 (X := X) (D := D) (P := P) (G := G) (A := A) (sd := A 10 0) (n := A 10 2) (H := A 14) (Pd := A 15) (F0 := A 12) (ord := A 11) (T := fun a => A (18 + a)) hD ok hF hn ho
  rw [hall_id] at this
  exact this
theorem c_91n {X : mX} {D : Nat} {P : mPost} {A : Nat → Nat → Nat} {G : mG} {a n : Nat} (hD : 3 ≤ D) (ha : a < 4294967296) (hn : n < 4294967296) (h5 : A 5 0 ≤ 12) (h6 : ∀ a, a < A 5 0 → A 14 a ≤ 6) (ht : ∀ a, a < A 5 0 → ∀ k, k < A 14 a → A (18 + a) k < 600 ∧ A (18 + a) k % 100 < 12) (ho : ∀ r, r < 6 → A 13 r < 4096) (h : ¬ (a < A 5 0 ∧ 1 ≤ n ∧ n ≤ mgN (fun k => (A 13 (A (18 + a) k / 100)).testBit (A (18 + a) k % 100)) (A 14 a))) : mCall X D 91 [.ref 0, .int (tN a), .int (tN n)] (mN A, RF, G, mSh) P = P (some (.int (tN (4294967295)))) (mN A, RF, G, mSh) := by
  have e40 := fun P' => c_40 (X := X) (D := D - 1) (P := P') (G := G) (A := A) (x := a) (by omega) ha h5
  rw [e_91 (by omega)]
  by_cases c : a < A 5 0
  · have e92 := fun P' => c_92 (X := X) (D := D - 1) (P := P') (G := G) (A := A) (a := a) (by omega) (by omega) (h6 a c) (ht a c) ho
    have hm := mgN_le (op := fun k => (A 13 (A (18 + a) k / 100)).testBit (A (18 + a) k % 100)) (A 14 a)
    have h6a := h6 a c
    generalize mgN (fun k => (A 13 (A (18 + a) k / 100)).testBit (A (18 + a) k % 100)) (A 14 a) = mg at *
    by_cases c2 : n < 2147483648
    · by_cases c3 : n < 1
      · simp (disch := first | omega | assumption | exact mOk_int | exact mOk_null | exact mOk_ref | (simp (disch := omega) only [aF_ef, aF_nf, aU_ne, aU_eq, aU_ne2]; first | done | omega | assumption)) only [k_91_0, al_0, gq_0, gq_1, gq_2, gq_3, gq_4, il_1, q_callV1, ri_ifeq, il_2, r_push, ri_iclt, ri_icle, r_iret, q_callV3, q_callV2, kd_0, kd_1, kd_2, kd_3, kd_4, kd_5, ln_0, ln_1, ln_2, ln_3, ln_4, ln_5, Option.some.injEq, Value.int.injEq, Value.ref.injEq, Value.long.injEq, Prod.mk.injEq, exists_eq_left', exists_eq_left, true_and, and_true, mLk, Option.any_some, mC1, Value.category, Option.toList_some, Option.toList_none, List.nil_append, List.cons_append, List.length_cons, List.length_nil, ne_eq, Nat.reduceEqDiff, not_false_eq_true, reduceCtorEq, exists_and_left, exists_and_right, Nat.reduceLeDiff, Nat.reduceAdd, and_self, exists_eq, exists_eq_right, exists_const, eq_self, exists_eq', not_true_eq_false, false_implies, true_implies, implies_true, forall_const, or_true, true_or, false_or, or_false, and_false, false_and, if_true, if_false, ite_true, ite_false, mB, mOk_int, mOk_ref, mOk_null, mOk_long, Nat.reduceLT, Nat.reduceSub, Nat.reduceMul, Nat.reduceDiv, Nat.reduceMod, Classical.not_not, ↓reduceIte, Nat.zero_add, Nat.add_zero, Nat.add_sub_cancel, Bool.false_eq_true, tN_l, tN_m1, tN_n1, tN_n8, tN_dec, tN_dec8, aF_ef, aF_nf, aF_U, tN_inj, tN_add, tN_mul, tN_sub, tN_and, tN_or, tN_xor, tN_and31, tN_clamp, tN_in, tN_div, nm_rem, tN_shl, tN_shr, tN_b2, nd_lt, nd_nlt, nd_le, nd_nle, nd_eq, nd_ne, mN_at, mN_U, aU_ne, aU_eq, aU_ne2, tW_lt, tW_le, tW_lt2, tW_le2, e40, c]
      · have c4 : mg < n := by omega
        simp (disch := first | omega | assumption | exact mOk_int | exact mOk_null | exact mOk_ref | (simp (disch := omega) only [aF_ef, aF_nf, aU_ne, aU_eq, aU_ne2]; first | done | omega | assumption)) only [k_91_0, al_0, gq_0, gq_1, gq_2, gq_3, gq_4, il_1, q_callV1, ri_ifeq, il_2, r_push, ri_iclt, ri_icle, r_iret, q_callV3, q_callV2, kd_0, kd_1, kd_2, kd_3, kd_4, kd_5, ln_0, ln_1, ln_2, ln_3, ln_4, ln_5, Option.some.injEq, Value.int.injEq, Value.ref.injEq, Value.long.injEq, Prod.mk.injEq, exists_eq_left', exists_eq_left, true_and, and_true, mLk, Option.any_some, mC1, Value.category, Option.toList_some, Option.toList_none, List.nil_append, List.cons_append, List.length_cons, List.length_nil, ne_eq, Nat.reduceEqDiff, not_false_eq_true, reduceCtorEq, exists_and_left, exists_and_right, Nat.reduceLeDiff, Nat.reduceAdd, and_self, exists_eq, exists_eq_right, exists_const, eq_self, exists_eq', not_true_eq_false, false_implies, true_implies, implies_true, forall_const, or_true, true_or, false_or, or_false, and_false, false_and, if_true, if_false, ite_true, ite_false, mB, mOk_int, mOk_ref, mOk_null, mOk_long, Nat.reduceLT, Nat.reduceSub, Nat.reduceMul, Nat.reduceDiv, Nat.reduceMod, Classical.not_not, ↓reduceIte, Nat.zero_add, Nat.add_zero, Nat.add_sub_cancel, Bool.false_eq_true, tN_l, tN_m1, tN_n1, tN_n8, tN_dec, tN_dec8, aF_ef, aF_nf, aF_U, tN_inj, tN_add, tN_mul, tN_sub, tN_and, tN_or, tN_xor, tN_and31, tN_clamp, tN_in, tN_div, nm_rem, tN_shl, tN_shr, tN_b2, nd_lt, nd_nlt, nd_le, nd_nle, nd_eq, nd_ne, mN_at, mN_U, aU_ne, aU_eq, aU_ne2, tW_lt, tW_le, tW_lt2, tW_le2, e40, c, e92]
    · simp (disch := first | omega | assumption | exact mOk_int | exact mOk_null | exact mOk_ref | (simp (disch := omega) only [aF_ef, aF_nf, aU_ne, aU_eq, aU_ne2]; first | done | omega | assumption)) only [k_91_0, al_0, gq_0, gq_1, gq_2, gq_3, gq_4, il_1, q_callV1, ri_ifeq, il_2, r_push, ri_iclt, ri_icle, r_iret, q_callV3, q_callV2, kd_0, kd_1, kd_2, kd_3, kd_4, kd_5, ln_0, ln_1, ln_2, ln_3, ln_4, ln_5, Option.some.injEq, Value.int.injEq, Value.ref.injEq, Value.long.injEq, Prod.mk.injEq, exists_eq_left', exists_eq_left, true_and, and_true, mLk, Option.any_some, mC1, Value.category, Option.toList_some, Option.toList_none, List.nil_append, List.cons_append, List.length_cons, List.length_nil, ne_eq, Nat.reduceEqDiff, not_false_eq_true, reduceCtorEq, exists_and_left, exists_and_right, Nat.reduceLeDiff, Nat.reduceAdd, and_self, exists_eq, exists_eq_right, exists_const, eq_self, exists_eq', not_true_eq_false, false_implies, true_implies, implies_true, forall_const, or_true, true_or, false_or, or_false, and_false, false_and, if_true, if_false, ite_true, ite_false, mB, mOk_int, mOk_ref, mOk_null, mOk_long, Nat.reduceLT, Nat.reduceSub, Nat.reduceMul, Nat.reduceDiv, Nat.reduceMod, Classical.not_not, ↓reduceIte, Nat.zero_add, Nat.add_zero, Nat.add_sub_cancel, Bool.false_eq_true, tN_l, tN_m1, tN_n1, tN_n8, tN_dec, tN_dec8, aF_ef, aF_nf, aF_U, tN_inj, tN_add, tN_mul, tN_sub, tN_and, tN_or, tN_xor, tN_and31, tN_clamp, tN_in, tN_div, nm_rem, tN_shl, tN_shr, tN_b2, nd_lt, nd_nlt, nd_le, nd_nle, nd_eq, nd_ne, mN_at, mN_U, aU_ne, aU_eq, aU_ne2, tW_lt, tW_le, tW_lt2, tW_le2, e40, c]
  · simp (disch := first | omega | assumption | exact mOk_int | exact mOk_null | exact mOk_ref | (simp (disch := omega) only [aF_ef, aF_nf, aU_ne, aU_eq, aU_ne2]; first | done | omega | assumption)) only [k_91_0, al_0, gq_0, gq_1, gq_2, gq_3, gq_4, il_1, q_callV1, ri_ifeq, il_2, r_push, ri_iclt, ri_icle, r_iret, q_callV3, q_callV2, kd_0, kd_1, kd_2, kd_3, kd_4, kd_5, ln_0, ln_1, ln_2, ln_3, ln_4, ln_5, Option.some.injEq, Value.int.injEq, Value.ref.injEq, Value.long.injEq, Prod.mk.injEq, exists_eq_left', exists_eq_left, true_and, and_true, mLk, Option.any_some, mC1, Value.category, Option.toList_some, Option.toList_none, List.nil_append, List.cons_append, List.length_cons, List.length_nil, ne_eq, Nat.reduceEqDiff, not_false_eq_true, reduceCtorEq, exists_and_left, exists_and_right, Nat.reduceLeDiff, Nat.reduceAdd, and_self, exists_eq, exists_eq_right, exists_const, eq_self, exists_eq', not_true_eq_false, false_implies, true_implies, implies_true, forall_const, or_true, true_or, false_or, or_false, and_false, false_and, if_true, if_false, ite_true, ite_false, mB, mOk_int, mOk_ref, mOk_null, mOk_long, Nat.reduceLT, Nat.reduceSub, Nat.reduceMul, Nat.reduceDiv, Nat.reduceMod, Classical.not_not, ↓reduceIte, Nat.zero_add, Nat.add_zero, Nat.add_sub_cancel, Bool.false_eq_true, tN_l, tN_m1, tN_n1, tN_n8, tN_dec, tN_dec8, aF_ef, aF_nf, aF_U, tN_lt, tN_le, tN_inj, tN_add, tN_mul, tN_sub, tN_and, tN_or, tN_xor, tN_and31, tN_clamp, tN_in, tN_div, nm_rem, tN_shl, tN_shr, tN_b2, nd_lt, nd_nlt, nd_le, nd_nle, nd_eq, nd_ne, mN_at, mN_U, aU_ne, aU_eq, aU_ne2, e40, c]
theorem c_91 {X : mX} {D : Nat} {G : mG} {A : Nat → Nat → Nat} {a n : Nat} (hD : 8 ≤ D) (ok : okA A) (okt : okT A) (ha : a < A 5 0) (h1 : 1 ≤ n) (hn : n ≤ mgN (fun k => (A 13 (A (18 + a) k / 100)).testBit (A (18 + a) k % 100)) (A 14 a)) (h6 : A 14 a ≤ 6) (ht : ∀ k, k < A 14 a → A (18 + a) k < 600 ∧ A (18 + a) k % 100 < 12) (ho : ∀ r, r < 6 → A 13 r < 4096) (hp : ∀ r, r < 6 → (∃ k, k < A 14 a ∧ A (18 + a) k / 100 = r) → A 4 r ≤ 999) (hd : A 10 1 ≤ 30) (hF2 : ∀ r, r < A 2 0 → gbF A a n r < 2 ^ A 3 r) (hl : A 10 2 ≤ 12) (hlo : ∀ k, k < A 10 2 → A 11 k < A 5 0) : ∃ K : Nat → Nat, ∀ P, mCall X D 91 [.ref 0, .int (tN a), .int (tN n)] (mN A, RF, G, mSh) P = P (some (.int (tN (A 10 2 - rnQ (A 4) (A 2 0) (A 6) (A 7) (A 9) (gbF A a n) (A 11) (A 10 2))))) (mN (bkL (gbW A (up (A 14) a (A 14 a - n)) (gbF A a n) (up (A 16) a (gbR A a n n)) K)), RF, G, mSh) := by
  have k4 := ok.2.2.2.1
  have hm := mgN_le (op := fun k => (A 13 (A (18 + a) k / 100)).testBit (A (18 + a) k % 100)) (A 14 a)
  obtain ⟨K, e94⟩ := c_94 (X := X) (D := D - 1) (G := G) (A := A) (a := a) (n := n) (by omega) okt (by omega) (by omega) h6 ht hp hd (ok.2.2.2.2 a ha).2.1
  refine ⟨K, fun P => ?_⟩
  have e40 := fun P' => c_40 (X := X) (D := D - 1) (P := P') (G := G) (A := A) (x := a) (by omega) (by omega) k4
  have e92 := fun P' => c_92 (X := X) (D := D - 1) (P := P') (G := G) (A := A) (a := a) (by omega) (by omega) h6 ht ho
  have okB : okA (gbW A (up (A 14) a (A 14 a - n)) (gbF A a n) (up (A 16) a (gbR A a n n)) K) := okA_cg (fun c hc => gb_o (by omega)) ok
  have e98 := fun P' => c_98' (X := X) (D := D - 1) (P := P') (G := G) (A := gbW A (up (A 14) a (A 14 a - n)) (gbF A a n) (up (A 16) a (gbR A a n n)) K) (by omega) okB (by rw [gb_12, gb_o (by omega), gb_o (by omega)]; exact hF2) (by rw [gb_o (by omega)]; exact hl) (by rw [gb_o (by omega), gb_o (by omega), gb_o (by omega)]; exact hlo)
  rw [gb_12] at e98
  have w2 := gb_o (A := A) (h := up (A 14) a (A 14 a - n)) (f := gbF A a n) (r := up (A 16) a (gbR A a n n)) (K := K) (c := 2) (by omega)
  have w4 := gb_o (A := A) (h := up (A 14) a (A 14 a - n)) (f := gbF A a n) (r := up (A 16) a (gbR A a n n)) (K := K) (c := 4) (by omega)
  have w6 := gb_o (A := A) (h := up (A 14) a (A 14 a - n)) (f := gbF A a n) (r := up (A 16) a (gbR A a n n)) (K := K) (c := 6) (by omega)
  have w7 := gb_o (A := A) (h := up (A 14) a (A 14 a - n)) (f := gbF A a n) (r := up (A 16) a (gbR A a n n)) (K := K) (c := 7) (by omega)
  have w9 := gb_o (A := A) (h := up (A 14) a (A 14 a - n)) (f := gbF A a n) (r := up (A 16) a (gbR A a n n)) (K := K) (c := 9) (by omega)
  have w10 := gb_o (A := A) (h := up (A 14) a (A 14 a - n)) (f := gbF A a n) (r := up (A 16) a (gbR A a n n)) (K := K) (c := 10) (by omega)
  have w11 := gb_o (A := A) (h := up (A 14) a (A 14 a - n)) (f := gbF A a n) (r := up (A 16) a (gbR A a n n)) (K := K) (c := 11) (by omega)
  rw [w2, w4, w6, w7, w9, w10, w11] at e98
  rw [e_91 (by omega)]
  generalize mgN (fun k => (A 13 (A (18 + a) k / 100)).testBit (A (18 + a) k % 100)) (A 14 a) = mg at *
  generalize gbW A (up (A 14) a (A 14 a - n)) (gbF A a n) (up (A 16) a (gbR A a n n)) K = B at *
  generalize bkL B = C at *
  simp (disch := first | omega | assumption | exact mOk_int | exact mOk_null | exact mOk_ref | (simp (disch := omega) only [aF_ef, aF_nf, aU_ne, aU_eq, aU_ne2]; first | done | omega | assumption)) only [k_91_0, al_0, gq_0, gq_1, gq_2, gq_3, gq_4, il_1, q_callV1, ri_ifeq, il_2, r_push, ri_iclt, ri_icle, r_iret, q_callV3, q_callV2, kd_0, kd_1, kd_2, kd_3, kd_4, kd_5, ln_0, ln_1, ln_2, ln_3, ln_4, ln_5, Option.some.injEq, Value.int.injEq, Value.ref.injEq, Value.long.injEq, Prod.mk.injEq, exists_eq_left', exists_eq_left, true_and, and_true, mLk, Option.any_some, mC1, Value.category, Option.toList_some, Option.toList_none, List.nil_append, List.cons_append, List.length_cons, List.length_nil, ne_eq, Nat.reduceEqDiff, not_false_eq_true, reduceCtorEq, exists_and_left, exists_and_right, Nat.reduceLeDiff, Nat.reduceAdd, and_self, exists_eq, exists_eq_right, exists_const, eq_self, exists_eq', not_true_eq_false, false_implies, true_implies, implies_true, forall_const, or_true, true_or, false_or, or_false, and_false, false_and, if_true, if_false, ite_true, ite_false, mB, mOk_int, mOk_ref, mOk_null, mOk_long, Nat.reduceLT, Nat.reduceSub, Nat.reduceMul, Nat.reduceDiv, Nat.reduceMod, Classical.not_not, ↓reduceIte, Nat.zero_add, Nat.add_zero, Nat.add_sub_cancel, Bool.false_eq_true, tN_l, tN_m1, tN_n1, tN_n8, tN_dec, tN_dec8, aF_ef, aF_nf, aF_U, tN_lt, tN_le, tN_inj, tN_add, tN_mul, tN_sub, tN_and, tN_or, tN_xor, tN_and31, tN_clamp, tN_in, tN_div, nm_rem, tN_shl, tN_shr, tN_b2, nd_lt, nd_nlt, nd_le, nd_nle, nd_eq, nd_ne, mN_at, mN_U, aU_ne, aU_eq, aU_ne2, e40, ha, e92, e94, e98]
def gmW (A : Nat → Nat → Nat) (h o r : Nat → Nat) : Nat → Nat → Nat := fun c i => if c = 212 then h i else if c = 211 then o i else if c = 201 then r i else A c i
section
variable {A : Nat → Nat → Nat} {h o r : Nat → Nat}
theorem gm_212 : gmW A h o r 212 = h := rfl
theorem gm_211 : gmW A h o r 211 = o := rfl
theorem gm_201 : gmW A h o r 201 = r := rfl
theorem gm_o {c : Nat} (h1 : c ≠ 212 ∧ c ≠ 211 ∧ c ≠ 201) : gmW A h o r c = A c := by
  funext i
  unfold gmW
  rw [if_neg h1.1, if_neg h1.2.1, if_neg h1.2.2]
theorem gx_212 {i v : Nat} : aU (gmW A h o r) 212 i v = gmW A (up h i v) o r := by
  rw [aU_aF]
  funext c j
  unfold aF gmW up
  by_cases e : c = 212
  · simp only [e, if_true]
  · simp only [e, if_false]
theorem gx_211 {i v : Nat} : aU (gmW A h o r) 211 i v = gmW A h (up o i v) r := by
  rw [aU_aF]
  funext c j
  unfold aF gmW up
  by_cases e : c = 211
  · simp only [e, if_true, show ¬ (211 : Nat) = 212 by decide, if_false]
  · simp only [e, if_false]
theorem gx_201 {i v : Nat} : aU (gmW A h o r) 201 i v = gmW A h o (up r i v) := by
  rw [aU_aF]
  funext c j
  unfold aF gmW up
  by_cases e : c = 201
  · simp only [e, if_true, show ¬ (201 : Nat) = 212 by decide, show ¬ (201 : Nat) = 211 by decide, if_false]
  · simp only [e, if_false]
theorem gm_id : gmW A (A 212) (A 211) (A 201) = A := by
  funext c i
  unfold gmW
  by_cases e1 : c = 212
  · rw [if_pos e1, e1]
  rw [if_neg e1]
  by_cases e2 : c = 211
  · rw [if_pos e2, e2]
  rw [if_neg e2]
  by_cases e3 : c = 201
  · rw [if_pos e3, e3]
  rw [if_neg e3]
end
def pctM (A : Nat → Nat → Nat) (a r n : Nat) : Nat := pfA (fun k => ahU (tfM A a r n k) (A 206 k)) (A 210) 0 (A 205 0)
theorem pctM_le {A : Nat → Nat → Nat} {a r n : Nat} (ok : okTM A) : pctM A a r n ≤ 100 := pfA_le _ _ (fun i _ hi => (ok.2 i (by omega)).1)
section
variable (A : Nat → Nat → Nat) (a n : Nat)
def gmp (g : Nat) : Nat := A 213 (6 * a + (A 212 a - 1 - g))
def gmO : Nat → Nat → Nat
  | 0 => A 211
  | g + 1 => up (gmO g) (12 * (gmp A a g / 100) + gmp A a g % 100) 4294967295
def gmR : Nat → Nat
  | 0 => A 201 a
  | g + 1 => gmR g + A 192 (gmp A a g / 100) * pctM A a (gmp A a g / 100) n / 100
end
theorem ml_164a {X : mX} {D : Nat} {cap : Nat × Nat} {P : mPost} {G : mG} {A : Nat → Nat → Nat} {a n : Nat} {u5 u6 : Value} (hD : 2 ≤ D) (ok : okTM A) (ha : a < 12) (hn : n ≤ A 212 a) (h6 : A 212 a ≤ 6) (ht : ∀ k, k < A 212 a → A 213 (6 * a + k) < 600 ∧ A 213 (6 * a + k) % 100 < 12) (hp : ∀ r, r < 6 → (∃ k, k < A 212 a ∧ A 213 (6 * a + k) / 100 = r) → A 192 r ≤ 999) (hd : A 199 0 ≤ 30) (hs : A 194 a ≤ 6) (g5 : mOk u5 = true) : ∀ m g u4, g + m = n → mOk u4 = true → mW (mCall X D) X cap 164 P 31 [.ref 185, .int (tN a), .int (tN n), .int (tN g), u4, u5, u6] [] (mN (gmW A (up (A 212) a (A 212 a - g)) (gmO A a g) (up (A 201) a (gmR A a n g))), RF, G, mSh) = mW (mCall X D) X cap 164 P 124 [.ref 185, .int (tN a), .int (tN n), .int (tN 0), .int (tN 0), .int (tN 0), u6] [] (mN (gmW A (up (A 212) a (A 212 a - n)) (gmO A a n) (up (A 201) a (gmR A a n n))), RF, G, mSh) := by
  intro m
  induction m with
  | zero =>
    intro g u4 e g4
    obtain rfl : g = n := by omega
    rw [kh_164_31]
    simp (disch := first | omega | assumption | exact mOk_int | exact mOk_null | exact mOk_ref | (simp (disch := omega) only [aF_ef, aF_nf, aU_ne, aU_eq, aU_ne2]; first | done | omega | assumption)) only [k_164_0, k_164_1, k_164_2, al_0, r_push, q_putI, il_1, q_callV1, ri_ifeq, il_2, ri_iclt, ri_icle, r_iret, is_3, il_3, ri_icge, gq_0, gq_1, gq_2, gq_3, gq_4, r_dup2, q_iald, r_isub, q_iast, r_imul, r_iadd, is_4, il_4, r_idiv, q_callV3, ii_3, r_goto, is_5, il_5, is_6, il_6, q_callV2, ii_4, ii_5, kd_0, kd_1, kd_2, kd_3, kd_4, kd_5, ln_0, ln_1, ln_2, ln_3, ln_4, ln_5, Option.some.injEq, Value.int.injEq, Value.ref.injEq, Value.long.injEq, Prod.mk.injEq, exists_eq_left', exists_eq_left, true_and, and_true, mLk, Option.any_some, mC1, Value.category, Option.toList_some, Option.toList_none, List.nil_append, List.cons_append, List.length_cons, List.length_nil, ne_eq, Nat.reduceEqDiff, not_false_eq_true, reduceCtorEq, exists_and_left, exists_and_right, Nat.reduceLeDiff, Nat.reduceAdd, and_self, exists_eq, exists_eq_right, exists_const, eq_self, exists_eq', not_true_eq_false, false_implies, true_implies, implies_true, forall_const, or_true, true_or, false_or, or_false, and_false, false_and, if_true, if_false, ite_true, ite_false, mB, mOk_int, mOk_ref, mOk_null, mOk_long, Nat.reduceLT, Nat.reduceSub, Nat.reduceMul, Nat.reduceDiv, Nat.reduceMod, Classical.not_not, ↓reduceIte, Nat.zero_add, Nat.add_zero, Nat.add_sub_cancel, Bool.false_eq_true, tN_l, tN_m1, tN_n1, tN_n8, tN_dec, tN_dec8, aF_ef, aF_nf, aF_U, tN_lt, tN_le, tN_inj, tN_add, tN_mul, tN_sub, tN_and, tN_or, tN_xor, tN_and31, tN_clamp, tN_in, tN_div, nm_rem, tN_shl, tN_shr, tN_b2, nd_lt, nd_nlt, nd_le, nd_nle, nd_eq, nd_ne, mN_at, mN_U, aU_ne, aU_eq, aU_ne2]
  | succ m ih =>
    intro g u4 e g4
    obtain ⟨t1, t2⟩ := ht (A 212 a - 1 - g) (by omega)
    have hp1 := hp (gmp A a g / 100) (by unfold gmp; omega) ⟨A 212 a - 1 - g, by omega, rfl⟩
    have tp1 : gmp A a g < 600 := t1
    have tp2 : gmp A a g % 100 < 12 := t2
    have okB : ∀ h o r, okTM (gmW A h o r) := by
      intro h o r
      unfold okTM at *
      simp (disch := omega) only [gm_o]
      exact ok
    have e167 := fun P' => m_167 (X := X) (D := D) (P := P') (G := G) (A := gmW A (up (A 212) a (A 212 a - 1 - g)) (up (gmO A a g) (12 * (gmp A a g / 100) + gmp A a g % 100) 4294967295) (up (A 201) a (gmR A a n g))) (a := a) (r := gmp A a g / 100) (n := n) hD (okB _ _ _) ha (by omega) (by omega) (by rw [gm_o (by omega)]; exact hd) (by rw [gm_o (by omega)]; exact hp1) (by rw [gm_o (by omega)]; exact hs)
    have etf : tfM (gmW A (up (A 212) a (A 212 a - 1 - g)) (up (gmO A a g) (12 * (gmp A a g / 100) + gmp A a g % 100) 4294967295) (up (A 201) a (gmR A a n g))) a (gmp A a g / 100) n = tfM A a (gmp A a g / 100) n := by
      funext l i
      unfold tfM kvM
      simp (disch := omega) only [gm_o]
    rw [etf] at e167
    simp (disch := omega) only [gm_o] at e167
    rw [show pfA (fun k => ahU (tfM A a (gmp A a g / 100) n k) (A 206 k)) (A 210) 0 (A 205 0) = pctM A a (gmp A a g / 100) n from rfl] at e167
    have hpl := pctM_le (a := a) (r := gmp A a g / 100) (n := n) ok
    have hpm : A 192 (gmp A a g / 100) * pctM A a (gmp A a g / 100) n ≤ 999 * 100 := Nat.mul_le_mul hp1 hpl
    have ih'' := ih (g + 1) (.int (tN (gmp A a g))) (by omega) mOk_int
    have es : A 212 a - (g + 1) = A 212 a - 1 - g := by omega
    have eg : gmR A a n (g + 1) = gmR A a n g + A 192 (gmp A a g / 100) * pctM A a (gmp A a g / 100) n / 100 := rfl
    have ef : gmO A a (g + 1) = up (gmO A a g) (12 * (gmp A a g / 100) + gmp A a g % 100) 4294967295 := rfl
    rw [es, eg, ef] at ih''
    have hgb : A 213 (6 * a + (A 212 a - 1 - g)) = gmp A a g := rfl
    have es2 : A 212 a - g - 1 = A 212 a - 1 - g := by omega
    rw [kh_164_31]
    generalize pctM A a (gmp A a g / 100) n = pc at *
    generalize gmp A a g = p at *
    generalize gmR A a n g = rr at *
    generalize gmO A a g = oo at *
    simp (disch := first | omega | assumption | exact mOk_int | exact mOk_null | exact mOk_ref | (simp (disch := omega) only [aF_ef, aF_nf, aU_ne, aU_eq, aU_ne2]; first | done | omega | assumption)) only [k_164_0, k_164_1, k_164_2, al_0, r_push, q_putI, il_1, q_callV1, ri_ifeq, il_2, ri_iclt, ri_icle, r_iret, is_3, il_3, ri_icge, gq_0, gq_1, gq_2, gq_3, gq_4, r_dup2, q_iald, r_isub, q_iast, r_imul, r_iadd, is_4, il_4, r_idiv, q_callV3, ii_3, r_goto, is_5, il_5, is_6, il_6, q_callV2, ii_4, ii_5, kd_0, kd_1, kd_2, kd_3, kd_4, kd_5, ln_0, ln_1, ln_2, ln_3, ln_4, ln_5, Option.some.injEq, Value.int.injEq, Value.ref.injEq, Value.long.injEq, Prod.mk.injEq, exists_eq_left', exists_eq_left, true_and, and_true, mLk, Option.any_some, mC1, Value.category, Option.toList_some, Option.toList_none, List.nil_append, List.cons_append, List.length_cons, List.length_nil, ne_eq, Nat.reduceEqDiff, not_false_eq_true, reduceCtorEq, exists_and_left, exists_and_right, Nat.reduceLeDiff, Nat.reduceAdd, and_self, exists_eq, exists_eq_right, exists_const, eq_self, exists_eq', not_true_eq_false, false_implies, true_implies, implies_true, forall_const, or_true, true_or, false_or, or_false, and_false, false_and, if_true, if_false, ite_true, ite_false, mB, mOk_int, mOk_ref, mOk_null, mOk_long, Nat.reduceLT, Nat.reduceSub, Nat.reduceMul, Nat.reduceDiv, Nat.reduceMod, Classical.not_not, ↓reduceIte, Nat.zero_add, Nat.add_zero, Nat.add_sub_cancel, Bool.false_eq_true, tN_l, tN_m1, tN_n1, tN_n8, tN_dec, tN_dec8, aF_ef, aF_nf, aF_U, tN_lt, tN_le, tN_inj, tN_add, tN_mul, tN_sub, tN_and, tN_or, tN_xor, tN_and31, tN_clamp, tN_in, tN_div, nm_rem, tN_shl, tN_shr, tN_b2, nd_lt, nd_nlt, nd_le, nd_nle, nd_eq, nd_ne, mN_at, mN_U, aU_ne, aU_eq, aU_ne2, gm_212, gm_211, gm_201, gm_o, gx_212, gx_211, gx_201, up_eq, up_up, es2, hgb, m_166, e167]
    exact ih''

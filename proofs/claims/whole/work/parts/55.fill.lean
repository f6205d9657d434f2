set_option maxRecDepth 20000
set_option maxHeartbeats 4000000
/-! MODEL: all turns in a hall -/
def okM (A : Nat → Nat → Nat) : Prop := A 190 0 ≤ 6 ∧ (∀ r, r < A 190 0 → 1 ≤ A 191 r ∧ A 191 r ≤ 12) ∧ (∀ r, r < A 190 0 → A 192 r ≤ 999) ∧ A 193 0 ≤ 12 ∧ (∀ a, a < A 193 0 → 1 ≤ A 194 a ∧ A 194 a ≤ 6 ∧ A 195 a ≤ 999 ∧ A 197 a ≤ 1)
theorem mtA_o {A : Nat → Nat → Nat} {h a c : Nat} {F : Nat → Nat} (h1 : c ≠ 211) (h2 : c ≠ 212) (h3 : c ≠ 213) : mtA A h a F c = A c := by
  unfold mtA
  rw [aF_nf h2, aF_nf h3, aF_nf h1]
theorem mtA_211 {A : Nat → Nat → Nat} {h a : Nat} {F : Nat → Nat} : mtA A h a F 211 = oSet (A 211) (posN h (ttP (A 192) F (A 194 a) (A 195 a) (A 190 0))) a (ttN (A 192) F (A 194 a) (A 195 a) (A 197 a) (A 190 0)) := by
  unfold mtA
  rw [aF_nf (by decide), aF_nf (by decide), aF_ef]
theorem mtA_212 {A : Nat → Nat → Nat} {h a : Nat} {F : Nat → Nat} : mtA A h a F 212 = up (A 212) (12 * h + a) (ttN (A 192) F (A 194 a) (A 195 a) (A 197 a) (A 190 0)) := by
  unfold mtA
  rw [aF_ef]
theorem mtA_213 {A : Nat → Nat → Nat} {h a : Nat} {F : Nat → Nat} : mtA A h a F 213 = fun i => if 6 * (12 * h + a) ≤ i ∧ i < 6 * (12 * h + a) + ttN (A 192) F (A 194 a) (A 195 a) (A 197 a) (A 190 0) then ttP (A 192) F (A 194 a) (A 195 a) (A 190 0) (i - 6 * (12 * h + a)) else A 213 i := by
  unfold mtA
  rw [aF_nf (by decide), aF_ef]
/-- the rows that a turn leaves free -/
theorem oRow_turn {A : Nat → Nat → Nat} {h a r : Nat} {F : Nat → Nat} (ok : okM A) (ha : a < A 193 0) (ho : ∀ r, r < A 190 0 → oRow A h r (F r)) (hr : r < A 190 0) : oRow (mtA A h a F) h r (ttF (A 192) F (A 194 a) (A 195 a) (A 197 a) (A 190 0) r) := by
  obtain ⟨k1, k2, k3, k4, k5⟩ := ok
  obtain ⟨s1, s2, s3, s4⟩ := k5 a ha
  have hw : ∀ r, r < A 190 0 → A 191 r ≤ 12 := fun r hr => (k2 r hr).2
  have hF : ∀ r, r < A 190 0 → F r < 2 ^ A 191 r := fun r hr => (ho r hr).1
  refine oRow_set (T := ttP (A 192) F (A 194 a) (A 195 a) (A 190 0)) (n := ttN (A 192) F (A 194 a) (A 195 a) (A 197 a) (A 190 0)) (by omega) (by omega) (hw r hr) (mtA_o (by decide) (by decide) (by decide)) mtA_211 (fun k hk => ?_) (ho r hr) (ttF_lt (hF r hr)) (fun j hj => ttF_bit s1 s2 k1 hw hF hr)
  obtain ⟨q1, q2, q3, q4⟩ := ttP_ok (w := A 191) s1 s2 k1 hw hF hk
  exact Nat.lt_of_lt_of_le q2 (hw _ q1)
def flA (A : Nat → Nat → Nat) (h : Nat) (F0 ord : Nat → Nat) : Nat → Nat → Nat → Nat
  | 0 => emM A h
  | k + 1 => mtA (flA A h F0 ord k) h (ord k) (rnF (A 192) (A 190 0) (A 194) (A 195) (A 197) F0 ord k)
theorem emM_o {A : Nat → Nat → Nat} {h c : Nat} (h1 : c ≠ 211) (h2 : c ≠ 212) : emM A h c = A c := by
  unfold emM
  rw [aF_nf h2, aF_nf h1]
theorem flA_o {A : Nat → Nat → Nat} {h c : Nat} {F0 ord : Nat → Nat} (h1 : c ≠ 211) (h2 : c ≠ 212) (h3 : c ≠ 213) : ∀ k, flA A h F0 ord k c = A c
  | 0 => emM_o h1 h2
  | k + 1 => (mtA_o h1 h2 h3).trans (flA_o h1 h2 h3 k)
theorem okM_cg {A B : Nat → Nat → Nat} (h : ∀ c, 190 ≤ c → c ≤ 197 → B c = A c) (ok : okM A) : okM B := by
  unfold okM at *
  rw [h 190 (by omega) (by omega), h 191 (by omega) (by omega), h 192 (by omega) (by omega), h 193 (by omega) (by omega), h 194 (by omega) (by omega), h 195 (by omega) (by omega), h 197 (by omega) (by omega)]
  exact ok
theorem flA_s {A : Nat → Nat → Nat} {h : Nat} {F0 ord : Nat → Nat} {k : Nat} : ttN (flA A h F0 ord k 192) (rnF (A 192) (A 190 0) (A 194) (A 195) (A 197) F0 ord k) (flA A h F0 ord k 194 (ord k)) (flA A h F0 ord k 195 (ord k)) (flA A h F0 ord k 197 (ord k)) (flA A h F0 ord k 190 0) = rnN (A 192) (A 190 0) (A 194) (A 195) (A 197) F0 ord k := by
  rw [flA_o (by decide) (by decide) (by decide), flA_o (by decide) (by decide) (by decide), flA_o (by decide) (by decide) (by decide), flA_o (by decide) (by decide) (by decide), flA_o (by decide) (by decide) (by decide)]
  rfl
theorem flA_row {A : Nat → Nat → Nat} {h : Nat} {F0 ord : Nat → Nat} (ok : okM A) (h0 : ∀ r, r < A 190 0 → F0 r = 1 <<< A 191 r - 1) (ho : ∀ k, k < A 193 0 → ord k < A 193 0) : ∀ k, k ≤ A 193 0 → ∀ r, r < A 190 0 → oRow (flA A h F0 ord k) h r (rnF (A 192) (A 190 0) (A 194) (A 195) (A 197) F0 ord k r) := by
  intro k
  induction k with
  | zero =>
    intro _ r hr
    obtain ⟨k1, k2, k3, k4, k5⟩ := ok
    show oRow (emM A h) h r (F0 r)
    unfold oRow emM
    rw [aF_nf (by decide), aF_nf (by decide), aF_nf (by decide), aF_ef, h0 r hr]
    refine ⟨full_lt, fun j hj => ?_⟩
    have := (k2 r hr).2
    rw [if_pos (by omega)]
    refine ⟨by decide, ⟨fun _ => ?_, fun _ => rfl⟩⟩
    rw [Nat.one_shiftLeft, Nat.testBit_two_pow_sub_one]
    exact decide_eq_true hj
  | succ k ih =>
    intro hk r hr
    have ih := ih (by omega)
    have o := fun c (h1 : 190 ≤ c) (h2 : c ≤ 197) => flA_o (A := A) (h := h) (c := c) (F0 := F0) (ord := ord) (by omega) (by omega) (by omega) k
    have ok2 : okM (flA A h F0 ord k) := okM_cg o ok
    have := oRow_turn (A := flA A h F0 ord k) (h := h) (a := ord k) (r := r) (F := rnF (A 192) (A 190 0) (A 194) (A 195) (A 197) F0 ord k) ok2 (by rw [o 193 (by omega) (by omega)]; exact ho k (by omega)) (by rw [o 190 (by omega) (by omega)]; exact ih) (by rw [o 190 (by omega) (by omega)]; exact hr)
    rw [o 190 (by omega) (by omega), o 192 (by omega) (by omega), o 194 (by omega) (by omega), o 195 (by omega) (by omega), o 197 (by omega) (by omega)] at this
    exact this
theorem flA_0 {A : Nat → Nat → Nat} {h a : Nat} {F0 ord : Nat → Nat} (ha : a < 12) : ∀ k, (∀ i, i < k → ord i ≠ a) → flA A h F0 ord k 212 (12 * h + a) = 0 := by
  intro k
  induction k with
  | zero =>
    intro _
    show emM A h 212 (12 * h + a) = 0
    unfold emM
    rw [aF_ef, if_pos (by omega)]
  | succ k ih =>
    intro hk
    show mtA (flA A h F0 ord k) h (ord k) _ 212 (12 * h + a) = 0
    rw [mtA_212, up_ne (fun z => hk k (by omega) (by omega))]
    exact ih (fun i hi => hk i (by omega))
theorem ml_131 {X : mX} {D : Nat} {cap : Nat × Nat} {P : mPost} {G : mG} {A : Nat → Nat → Nat} {h : Nat} {F0 ord : Nat → Nat} (hD : 5 ≤ D) (hh : h ≤ 4) (ok : okM A) (h0 : ∀ r, r < A 190 0 → F0 r = 1 <<< A 191 r - 1) (ho : ∀ k, k < A 193 0 → A 214 k = ord k ∧ ord k < A 193 0) (hi : ∀ i k, i < k → k < A 193 0 → ord i ≠ ord k) : ∀ m k, k + m = A 193 0 → mW (mCall X D) X cap 131 P 9 [.ref 185, .int (tN h), .int (tN (rnS (A 192) (A 190 0) (A 194) (A 195) (A 197) F0 ord k)), .int (tN k)] [] (mN (flA A h F0 ord k), RF, G, mSh) = P (some (.int (tN (rnS (A 192) (A 190 0) (A 194) (A 195) (A 197) F0 ord (A 193 0))))) (mN (flA A h F0 ord (A 193 0)), RF, G, mSh) := by
  have k4 := ok.2.2.2.1
  intro m
  induction m with
  | zero =>
    intro k e
    obtain rfl : k = A 193 0 := by omega
    have o193 := flA_o (A := A) (h := h) (c := 193) (F0 := F0) (ord := ord) (by decide) (by decide) (by decide) (A 193 0)
    generalize flA A h F0 ord (A 193 0) = C at *
    rw [kh_131_9]
    simp (disch := first | omega | assumption | exact mOk_int | exact mOk_null | exact mOk_ref | (simp (disch := omega) only [aF_ef, aF_nf, aU_ne, aU_eq, aU_ne2]; first | done | omega | assumption)) only [k_131_0, al_0, il_1, q_callV1, r_push, is_2, is_3, il_3, gq_0, gq_1, gq_2, gq_3, gq_4, q_iald, ri_icge, il_2, q_callV2, ri_ifeq, r_goto, r_iadd, ii_3, r_iret, kd_0, kd_1, kd_2, kd_3, kd_4, kd_5, ln_0, ln_1, ln_2, ln_3, ln_4, ln_5, Option.some.injEq, Value.int.injEq, Value.ref.injEq, Value.long.injEq, Prod.mk.injEq, exists_eq_left', exists_eq_left, true_and, and_true, mLk, Option.any_some, mC1, Value.category, Option.toList_some, Option.toList_none, List.nil_append, List.cons_append, List.length_cons, List.length_nil, ne_eq, Nat.reduceEqDiff, not_false_eq_true, reduceCtorEq, exists_and_left, exists_and_right, Nat.reduceLeDiff, Nat.reduceAdd, and_self, exists_eq, exists_eq_right, exists_const, eq_self, exists_eq', not_true_eq_false, false_implies, true_implies, implies_true, forall_const, or_true, true_or, false_or, or_false, and_false, false_and, if_true, if_false, ite_true, ite_false, mB, mOk_int, mOk_ref, mOk_null, mOk_long, Nat.reduceLT, Nat.reduceSub, Nat.reduceMul, Nat.reduceDiv, Nat.reduceMod, Classical.not_not, ↓reduceIte, Nat.zero_add, Nat.add_zero, Nat.add_sub_cancel, Bool.false_eq_true, tN_l, tN_m1, tN_n1, tN_n8, tN_dec, tN_dec8, aF_ef, aF_nf, aF_U, tN_lt, tN_le, tN_inj, tN_add, tN_mul, tN_sub, tN_and, tN_or, tN_xor, tN_and31, tN_clamp, tN_in, tN_div, nm_rem, tN_shl, tN_shr, tN_b2, nd_lt, nd_nlt, nd_le, nd_nle, nd_eq, nd_ne, mN_at, mN_U, aU_ne, aU_eq, aU_ne2, o193]
  | succ m ih =>
    intro k e
    have ih' := ih (k + 1) (by omega)
    obtain ⟨q1, q2⟩ := ho k (by omega)
    have o := fun c (h1 : c ≠ 211) (h2 : c ≠ 212) (h3 : c ≠ 213) => flA_o (A := A) (h := h) (c := c) (F0 := F0) (ord := ord) h1 h2 h3 k
    have ok2 : okM (flA A h F0 ord k) := okM_cg (fun c h1 h2 => o c (by omega) (by omega) (by omega)) ok
    have o193 := o 193 (by decide) (by decide) (by decide)
    have o214 := o 214 (by decide) (by decide) (by decide)
    have o190 := o 190 (by decide) (by decide) (by decide)
    obtain ⟨s1, s2, s3, s4⟩ := ok2.2.2.2.2 (ord k) (by rw [o193]; exact q2)
    have e133 := fun P' => m_133 (X := X) (D := D) (P := P') (G := G) (A := flA A h F0 ord k) (h := h) (a := ord k) (F := rnF (A 192) (A 190 0) (A 194) (A 195) (A 197) F0 ord k) hD hh (by omega) ok2.1 s1 s2 s3 s4 (flA_0 (by omega) k (fun i hik => hi i k hik (by omega))) ok2.2.1 (by rw [o190]; exact flA_row ok h0 (fun k hk => (ho k hk).2) k (by omega)) ok2.2.2.1
    rw [flA_s] at e133
    rw [show mtA (flA A h F0 ord k) h (ord k) (rnF (A 192) (A 190 0) (A 194) (A 195) (A 197) F0 ord k) = flA A h F0 ord (k + 1) from rfl] at e133
    generalize flA A h F0 ord k = C at *
    generalize flA A h F0 ord (k + 1) = C2 at *
    rw [kh_131_9]
    by_cases c : 0 < rnN (A 192) (A 190 0) (A 194) (A 195) (A 197) F0 ord k
    · simp only [rnS, c, if_true] at ih'
      simp (disch := first | omega | assumption | exact mOk_int | exact mOk_null | exact mOk_ref | (simp (disch := omega) only [aF_ef, aF_nf, aU_ne, aU_eq, aU_ne2]; first | done | omega | assumption)) only [k_131_0, al_0, il_1, q_callV1, r_push, is_2, is_3, il_3, gq_0, gq_1, gq_2, gq_3, gq_4, q_iald, ri_icge, il_2, q_callV2, ri_ifeq, r_goto, r_iadd, ii_3, r_iret, kd_0, kd_1, kd_2, kd_3, kd_4, kd_5, ln_0, ln_1, ln_2, ln_3, ln_4, ln_5, Option.some.injEq, Value.int.injEq, Value.ref.injEq, Value.long.injEq, Prod.mk.injEq, exists_eq_left', exists_eq_left, true_and, and_true, mLk, Option.any_some, mC1, Value.category, Option.toList_some, Option.toList_none, List.nil_append, List.cons_append, List.length_cons, List.length_nil, ne_eq, Nat.reduceEqDiff, not_false_eq_true, reduceCtorEq, exists_and_left, exists_and_right, Nat.reduceLeDiff, Nat.reduceAdd, and_self, exists_eq, exists_eq_right, exists_const, eq_self, exists_eq', not_true_eq_false, false_implies, true_implies, implies_true, forall_const, or_true, true_or, false_or, or_false, and_false, false_and, if_true, if_false, ite_true, ite_false, mB, mOk_int, mOk_ref, mOk_null, mOk_long, Nat.reduceLT, Nat.reduceSub, Nat.reduceMul, Nat.reduceDiv, Nat.reduceMod, Classical.not_not, ↓reduceIte, Nat.zero_add, Nat.add_zero, Nat.add_sub_cancel, Bool.false_eq_true, tN_l, tN_m1, tN_n1, tN_n8, tN_dec, tN_dec8, aF_ef, aF_nf, aF_U, tN_lt, tN_le, tN_inj, tN_add, tN_mul, tN_sub, tN_and, tN_or, tN_xor, tN_and31, tN_clamp, tN_in, tN_div, nm_rem, tN_shl, tN_shr, tN_b2, nd_lt, nd_nlt, nd_le, nd_nle, nd_eq, nd_ne, mN_at, mN_U, aU_ne, aU_eq, aU_ne2, o193, o214, q1, e133, c]
      exact ih'
    · simp only [rnS, c, if_false, Bool.false_eq_true] at ih'
      simp (disch := first | omega | assumption | exact mOk_int | exact mOk_null | exact mOk_ref | (simp (disch := omega) only [aF_ef, aF_nf, aU_ne, aU_eq, aU_ne2]; first | done | omega | assumption)) only [k_131_0, al_0, il_1, q_callV1, r_push, is_2, is_3, il_3, gq_0, gq_1, gq_2, gq_3, gq_4, q_iald, ri_icge, il_2, q_callV2, ri_ifeq, r_goto, r_iadd, ii_3, r_iret, kd_0, kd_1, kd_2, kd_3, kd_4, kd_5, ln_0, ln_1, ln_2, ln_3, ln_4, ln_5, Option.some.injEq, Value.int.injEq, Value.ref.injEq, Value.long.injEq, Prod.mk.injEq, exists_eq_left', exists_eq_left, true_and, and_true, mLk, Option.any_some, mC1, Value.category, Option.toList_some, Option.toList_none, List.nil_append, List.cons_append, List.length_cons, List.length_nil, ne_eq, Nat.reduceEqDiff, not_false_eq_true, reduceCtorEq, exists_and_left, exists_and_right, Nat.reduceLeDiff, Nat.reduceAdd, and_self, exists_eq, exists_eq_right, exists_const, eq_self, exists_eq', not_true_eq_false, false_implies, true_implies, implies_true, forall_const, or_true, true_or, false_or, or_false, and_false, false_and, if_true, if_false, ite_true, ite_false, mB, mOk_int, mOk_ref, mOk_null, mOk_long, Nat.reduceLT, Nat.reduceSub, Nat.reduceMul, Nat.reduceDiv, Nat.reduceMod, Classical.not_not, ↓reduceIte, Nat.zero_add, Nat.add_zero, Nat.add_sub_cancel, Bool.false_eq_true, tN_l, tN_m1, tN_n1, tN_n8, tN_dec, tN_dec8, aF_ef, aF_nf, aF_U, tN_lt, tN_le, tN_inj, tN_add, tN_mul, tN_sub, tN_and, tN_or, tN_xor, tN_and31, tN_clamp, tN_in, tN_div, nm_rem, tN_shl, tN_shr, tN_b2, nd_lt, nd_nlt, nd_le, nd_nle, nd_eq, nd_ne, mN_at, mN_U, aU_ne, aU_eq, aU_ne2, o193, o214, q1, e133, c]
      exact ih'
theorem m_131 {X : mX} {D : Nat} {P : mPost} {A : Nat → Nat → Nat} {G : mG} {h : Nat} {F0 ord : Nat → Nat} (hD : 6 ≤ D) (hh : h ≤ 4) (ok : okM A) (h0 : ∀ r, r < A 190 0 → F0 r = 1 <<< A 191 r - 1) (ho : ∀ k, k < A 193 0 → A 214 k = ord k ∧ ord k < A 193 0) (hi : ∀ i k, i < k → k < A 193 0 → ord i ≠ ord k) : mCall X D 131 [.ref 185, .int (tN h)] (mN A, RF, G, mSh) P = P (some (.int (tN (rnS (A 192) (A 190 0) (A 194) (A 195) (A 197) F0 ord (A 193 0))))) (mN (flA A h F0 ord (A 193 0)), RF, G, mSh) := by
  have e132 := fun P' => m_132 (X := X) (D := D - 1) (P := P') (G := G) (A := A) (h := h) (by omega) hh
  have := ml_131 (X := X) (D := D - 1) (cap := (mSh.length + (mAl 131).fst, mSum mSh + (mAl 131).snd)) (P := P) (G := G) (A := A) (h := h) (F0 := F0) (ord := ord) (by omega) hh ok h0 ho hi (A 193 0) 0 (by omega)
  rw [show flA A h F0 ord 0 = emM A h from rfl] at this
  rw [e_131 (by omega)]
  simp (disch := first | omega | assumption | exact mOk_int | exact mOk_null | exact mOk_ref | (simp (disch := omega) only [aF_ef, aF_nf, aU_ne, aU_eq, aU_ne2]; first | done | omega | assumption)) only [k_131_0, al_0, il_1, q_callV1, r_push, is_2, is_3, il_3, gq_0, gq_1, gq_2, gq_3, gq_4, q_iald, ri_icge, il_2, q_callV2, ri_ifeq, r_goto, r_iadd, ii_3, r_iret, kd_0, kd_1, kd_2, kd_3, kd_4, kd_5, ln_0, ln_1, ln_2, ln_3, ln_4, ln_5, Option.some.injEq, Value.int.injEq, Value.ref.injEq, Value.long.injEq, Prod.mk.injEq, exists_eq_left', exists_eq_left, true_and, and_true, mLk, Option.any_some, mC1, Value.category, Option.toList_some, Option.toList_none, List.nil_append, List.cons_append, List.length_cons, List.length_nil, ne_eq, Nat.reduceEqDiff, not_false_eq_true, reduceCtorEq, exists_and_left, exists_and_right, Nat.reduceLeDiff, Nat.reduceAdd, and_self, exists_eq, exists_eq_right, exists_const, eq_self, exists_eq', not_true_eq_false, false_implies, true_implies, implies_true, forall_const, or_true, true_or, false_or, or_false, and_false, false_and, if_true, if_false, ite_true, ite_false, mB, mOk_int, mOk_ref, mOk_null, mOk_long, Nat.reduceLT, Nat.reduceSub, Nat.reduceMul, Nat.reduceDiv, Nat.reduceMod, Classical.not_not, ↓reduceIte, Nat.zero_add, Nat.add_zero, Nat.add_sub_cancel, Bool.false_eq_true, tN_l, tN_m1, tN_n1, tN_n8, tN_dec, tN_dec8, aF_ef, aF_nf, aF_U, tN_lt, tN_le, tN_inj, tN_add, tN_mul, tN_sub, tN_and, tN_or, tN_xor, tN_and31, tN_clamp, tN_in, tN_div, nm_rem, tN_shl, tN_shr, tN_b2, nd_lt, nd_nlt, nd_le, nd_nle, nd_eq, nd_ne, mN_at, mN_U, aU_ne, aU_eq, aU_ne2, e132]
  exact this

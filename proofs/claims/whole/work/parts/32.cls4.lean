set_option maxRecDepth 20000
set_option maxHeartbeats 4000000
/-! CLASS: the hall -/
def hallA (A : Nat → Nat → Nat) (sd ln : Nat) (L F H Pd : Nat → Nat) (T : Nat → Nat → Nat) : Nat → Nat → Nat := fun c i =>
  if c = 12 then F i else if c = 14 then H i else if c = 15 then Pd i else if c = 11 then L i else if 18 ≤ c ∧ c ≤ 29 then T (c - 18) i else if c = 10 then (if i = 0 then sd else if i = 2 then ln else A 10 i) else A c i
section
variable {A : Nat → Nat → Nat} {sd ln : Nat} {L F H Pd : Nat → Nat} {T : Nat → Nat → Nat}
theorem hr_12 : hallA A sd ln L F H Pd T 12 = F := rfl
theorem hr_14 : hallA A sd ln L F H Pd T 14 = H := rfl
theorem hr_15 : hallA A sd ln L F H Pd T 15 = Pd := rfl
theorem hr_11 : hallA A sd ln L F H Pd T 11 = L := rfl
theorem hr_100 : hallA A sd ln L F H Pd T 10 0 = sd := rfl
theorem hr_101 : hallA A sd ln L F H Pd T 10 1 = A 10 1 := rfl
theorem hr_102 : hallA A sd ln L F H Pd T 10 2 = ln := rfl
theorem hr_t {a : Nat} (h : a < 12) : hallA A sd ln L F H Pd T (18 + a) = T a := by
  funext i
  unfold hallA
  rw [if_neg (by omega), if_neg (by omega), if_neg (by omega), if_neg (by omega), if_pos (by omega), Nat.add_sub_cancel_left]
theorem hr_o {c : Nat} (h : c ≠ 10 ∧ c ≠ 11 ∧ c ≠ 12 ∧ c ≠ 14 ∧ c ≠ 15 ∧ (c < 18 ∨ 29 < c)) : hallA A sd ln L F H Pd T c = A c := by
  funext i
  unfold hallA
  rw [if_neg (by omega), if_neg (by omega), if_neg (by omega), if_neg (by omega), if_neg (by omega), if_neg (by omega)]
theorem hw_12 {g : Nat → Nat} : aF (hallA A sd ln L F H Pd T) 12 g = hallA A sd ln L g H Pd T := by
  funext c i
  unfold aF hallA
  split <;> rfl
theorem hw_t {a : Nat} {g : Nat → Nat} (h : a < 12) : aF (hallA A sd ln L F H Pd T) (18 + a) g = hallA A sd ln L F H Pd (up T a g) := by
  funext c i
  unfold aF hallA up
  by_cases e : c = 18 + a
  · rw [if_pos e, if_neg (by omega), if_neg (by omega), if_neg (by omega), if_neg (by omega), if_pos (by omega), if_pos (by omega)]
  · rw [if_neg e]
    by_cases d : 18 ≤ c ∧ c ≤ 29
    · rw [if_neg (show ¬ c - 18 = a by omega)]
    · simp only [d, if_false]
theorem hw_14 {i v : Nat} : aU (hallA A sd ln L F H Pd T) 14 i v = hallA A sd ln L F (up H i v) Pd T := by
  rw [aU_aF]
  funext c j
  unfold aF hallA up
  by_cases e : c = 14
  · subst e; rfl
  · rw [if_neg e]; simp only [e, if_false]
theorem hw_15 {i v : Nat} : aU (hallA A sd ln L F H Pd T) 15 i v = hallA A sd ln L F H (up Pd i v) T := by
  rw [aU_aF]
  funext c j
  unfold aF hallA up
  by_cases e : c = 15
  · subst e; rfl
  · rw [if_neg e]; simp only [e, if_false]
theorem hw_11 {i v : Nat} : aU (hallA A sd ln L F H Pd T) 11 i v = hallA A sd ln (up L i v) F H Pd T := by
  rw [aU_aF]
  funext c j
  unfold aF hallA up
  by_cases e : c = 11
  · subst e; rfl
  · rw [if_neg e]; simp only [e, if_false]
theorem hw_100 {v : Nat} : aU (hallA A sd ln L F H Pd T) 10 0 v = hallA A v ln L F H Pd T := by
  rw [aU_aF]
  funext c j
  unfold aF
  by_cases e : c = 10
  · subst e
    by_cases d : j = 0
    · subst d; rfl
    · rw [if_pos rfl]
      show (if j = 0 then v else if j = 0 then sd else if j = 2 then ln else A 10 j) = (if j = 0 then v else if j = 2 then ln else A 10 j)
      simp only [d, if_false]
  · rw [if_neg e]; unfold hallA; simp only [e, if_false]
theorem hw_102 {v : Nat} : aU (hallA A sd ln L F H Pd T) 10 2 v = hallA A sd v L F H Pd T := by
  rw [aU_aF]
  funext c j
  unfold aF
  by_cases e : c = 10
  · subst e
    rw [if_pos rfl]
    show (if j = 2 then v else if j = 0 then sd else if j = 2 then ln else A 10 j) = (if j = 0 then sd else if j = 2 then v else A 10 j)
    by_cases d : j = 2
    · subst d; rfl
    · simp only [d, if_false]
  · rw [if_neg e]; unfold hallA; simp only [e, if_false]
theorem hall_id : hallA A (A 10 0) (A 10 2) (A 11) (A 12) (A 14) (A 15) (fun a => A (18 + a)) = A := by
  funext c i
  unfold hallA
  by_cases e1 : c = 12
  · rw [if_pos e1, e1]
  rw [if_neg e1]
  by_cases e2 : c = 14
  · rw [if_pos e2, e2]
  rw [if_neg e2]
  by_cases e3 : c = 15
  · rw [if_pos e3, e3]
  rw [if_neg e3]
  by_cases e4 : c = 11
  · rw [if_pos e4, e4]
  rw [if_neg e4]
  by_cases e5 : 18 ≤ c ∧ c ≤ 29
  · rw [if_pos e5]
    show A (18 + (c - 18)) i = A c i
    rw [show 18 + (c - 18) = c by omega]
  rw [if_neg e5]
  by_cases e6 : c = 10
  · rw [if_pos e6, e6]
    by_cases d : i = 0
    · rw [if_pos d, d]
    · rw [if_neg d]
      by_cases d2 : i = 2
      · rw [if_pos d2, d2]
      · rw [if_neg d2]
  rw [if_neg e6]
end
theorem l_24 {X : mX} {D : Nat} {cap : Nat × Nat} {P : mPost} {G : mG} {A : Nat → Nat → Nat} {sd ln a cnt p0 : Nat} {L F H Pd t : Nat → Nat} {T : Nat → Nat → Nat} (ha : a < 12) (hc : cnt ≤ 6) (ht : ∀ k, k < cnt → t k / 100 < 6 ∧ t k < 600) : ∀ m k, k + m = cnt → mW (mCall X D) X cap 24 P 25 [.ref 10, .ref 2, .ref 5, .int (tN a), .int (tN k)] [] (mN (hallA A sd ln L F (up H a cnt) (up Pd a (p0 + psm (A 4) t k)) (up T a t)), RF, G, mSh) = P (some (.int (tN (if 0 < cnt then 1 else 0)))) (mN (hallA A sd ln L F (up H a cnt) (up Pd a (p0 + psm (A 4) t cnt)) (up T a t)), RF, G, mSh) := by
  obtain ⟨hk, hl⟩ := tc_kd (f := 18 + a) (by omega)
  intro m
  induction m with
  | zero =>
    intro k h
    obtain rfl : k = cnt := by omega
    rw [kh_24_25]
    by_cases c : 0 < k
    · simp (disch := first | omega | assumption | exact mOk_int | exact mOk_null | exact mOk_ref | (simp (disch := omega) only [aF_ef, aF_nf, aU_ne, aU_eq, aU_ne2]; first | done | omega | assumption)) only [k_24_0, k_24_1, al_0, gq_0, gq_1, gq_2, gq_3, gq_4, il_3, al_1, al_2, ar_17, ar_57, ar_96, ar_135, ar_164, ar_40_0, ar_40_1, ar_40_2, q_callV4, q_iast, r_push, is_4, il_4, q_iald, ri_icge, r_dup2, r_idiv, r_iadd, ii_4, r_goto, ri_ifle, r_zret, kd_0, kd_1, kd_2, kd_3, kd_4, kd_5, ln_0, ln_1, ln_2, ln_3, ln_4, ln_5, Option.some.injEq, Value.int.injEq, Value.ref.injEq, Value.long.injEq, Prod.mk.injEq, exists_eq_left', exists_eq_left, true_and, and_true, mLk, Option.any_some, mC1, Value.category, Option.toList_some, Option.toList_none, List.nil_append, List.cons_append, List.length_cons, List.length_nil, ne_eq, Nat.reduceEqDiff, not_false_eq_true, reduceCtorEq, exists_and_left, exists_and_right, Nat.reduceLeDiff, Nat.reduceAdd, and_self, exists_eq, exists_eq_right, exists_const, eq_self, exists_eq', not_true_eq_false, false_implies, true_implies, implies_true, forall_const, or_true, true_or, false_or, or_false, and_false, false_and, if_true, if_false, ite_true, ite_false, mB, mOk_int, mOk_ref, mOk_null, mOk_long, Nat.reduceLT, Nat.reduceSub, Nat.reduceMul, Nat.reduceDiv, Nat.reduceMod, Classical.not_not, ↓reduceIte, Nat.zero_add, Nat.add_zero, tN_l, tN_m1, tN_n1, tN_n8, aF_ef, aF_nf, aF_U, tN_lt, tN_le, tN_inj, tN_add, tN_mul, tN_sub, tN_and, tN_or, tN_xor, tN_and31, tN_clamp, tN_in, tN_div, nm_rem, tN_shl, tN_shr, tN_b2, nd_lt, nd_nlt, nd_le, nd_nle, nd_eq, nd_ne, mN_at, mN_U, aU_ne, aU_eq, aU_ne2, hr_12, hr_14, hr_15, hr_t, hr_o, up_eq, c]
    · simp (disch := first | omega | assumption | exact mOk_int | exact mOk_null | exact mOk_ref | (simp (disch := omega) only [aF_ef, aF_nf, aU_ne, aU_eq, aU_ne2]; first | done | omega | assumption)) only [k_24_0, k_24_1, al_0, gq_0, gq_1, gq_2, gq_3, gq_4, il_3, al_1, al_2, ar_17, ar_57, ar_96, ar_135, ar_164, ar_40_0, ar_40_1, ar_40_2, q_callV4, q_iast, r_push, is_4, il_4, q_iald, ri_icge, r_dup2, r_idiv, r_iadd, ii_4, r_goto, ri_ifle, r_zret, kd_0, kd_1, kd_2, kd_3, kd_4, kd_5, ln_0, ln_1, ln_2, ln_3, ln_4, ln_5, Option.some.injEq, Value.int.injEq, Value.ref.injEq, Value.long.injEq, Prod.mk.injEq, exists_eq_left', exists_eq_left, true_and, and_true, mLk, Option.any_some, mC1, Value.category, Option.toList_some, Option.toList_none, List.nil_append, List.cons_append, List.length_cons, List.length_nil, ne_eq, Nat.reduceEqDiff, not_false_eq_true, reduceCtorEq, exists_and_left, exists_and_right, Nat.reduceLeDiff, Nat.reduceAdd, and_self, exists_eq, exists_eq_right, exists_const, eq_self, exists_eq', not_true_eq_false, false_implies, true_implies, implies_true, forall_const, or_true, true_or, false_or, or_false, and_false, false_and, if_true, if_false, ite_true, ite_false, mB, mOk_int, mOk_ref, mOk_null, mOk_long, Nat.reduceLT, Nat.reduceSub, Nat.reduceMul, Nat.reduceDiv, Nat.reduceMod, Classical.not_not, ↓reduceIte, Nat.zero_add, Nat.add_zero, tN_l, tN_m1, tN_n1, tN_n8, aF_ef, aF_nf, aF_U, tN_lt, tN_le, tN_inj, tN_add, tN_mul, tN_sub, tN_and, tN_or, tN_xor, tN_and31, tN_clamp, tN_in, tN_div, nm_rem, tN_shl, tN_shr, tN_b2, nd_lt, nd_nlt, nd_le, nd_nle, nd_eq, nd_ne, mN_at, mN_U, aU_ne, aU_eq, aU_ne2, hr_12, hr_14, hr_15, hr_t, hr_o, up_eq, c]
  | succ m ih =>
    intro k h
    have ht1 := ht k (by omega)
    have ih' := ih (k + 1) (by omega)
    rw [if_pos (show 0 < cnt by omega)] at ih'
    rw [kh_24_25]
    simp (disch := first | omega | assumption | exact mOk_int | exact mOk_null | exact mOk_ref | (simp (disch := omega) only [aF_ef, aF_nf, aU_ne, aU_eq, aU_ne2]; first | done | omega | assumption)) only [k_24_0, k_24_1, al_0, gq_0, gq_1, gq_2, gq_3, gq_4, il_3, al_1, al_2, ar_17, ar_57, ar_96, ar_135, ar_164, ar_40_0, ar_40_1, ar_40_2, q_callV4, q_iast, r_push, is_4, il_4, q_iald, ri_icge, r_dup2, r_idiv, r_iadd, ii_4, r_goto, ri_ifle, r_zret, kd_0, kd_1, kd_2, kd_3, kd_4, kd_5, ln_0, ln_1, ln_2, ln_3, ln_4, ln_5, Option.some.injEq, Value.int.injEq, Value.ref.injEq, Value.long.injEq, Prod.mk.injEq, exists_eq_left', exists_eq_left, true_and, and_true, mLk, Option.any_some, mC1, Value.category, Option.toList_some, Option.toList_none, List.nil_append, List.cons_append, List.length_cons, List.length_nil, ne_eq, Nat.reduceEqDiff, not_false_eq_true, reduceCtorEq, exists_and_left, exists_and_right, Nat.reduceLeDiff, Nat.reduceAdd, and_self, exists_eq, exists_eq_right, exists_const, eq_self, exists_eq', not_true_eq_false, false_implies, true_implies, implies_true, forall_const, or_true, true_or, false_or, or_false, and_false, false_and, if_true, if_false, ite_true, ite_false, mB, mOk_int, mOk_ref, mOk_null, mOk_long, Nat.reduceLT, Nat.reduceSub, Nat.reduceMul, Nat.reduceDiv, Nat.reduceMod, Classical.not_not, ↓reduceIte, Nat.zero_add, Nat.add_zero, tN_l, tN_m1, tN_n1, tN_n8, aF_ef, aF_nf, aF_U, tN_lt, tN_le, tN_inj, tN_add, tN_mul, tN_sub, tN_and, tN_or, tN_xor, tN_and31, tN_clamp, tN_in, tN_div, nm_rem, tN_shl, tN_shr, tN_b2, nd_lt, nd_nlt, nd_le, nd_nle, nd_eq, nd_ne, mN_at, mN_U, aU_ne, aU_eq, aU_ne2, hk, hl, hr_12, hr_14, hr_15, hr_t, hr_o, up_eq, hw_15, up_up, Nat.add_assoc]
    exact ih'
theorem c_24 {X : mX} {D : Nat} {P : mPost} {A : Nat → Nat → Nat} {G : mG} {sd ln a : Nat} {L F H Pd : Nat → Nat} {T : Nat → Nat → Nat} (hD : 5 ≤ D) (ha : a < 12) (h1 : 1 ≤ A 6 a) (hs : A 6 a ≤ 6) (hm : A 7 a ≤ 999) (hpt : A 9 a ≤ 1) (hr : A 2 0 ≤ 6) (hw : ∀ r, r < A 2 0 → A 3 r ≤ 12) (hp : ∀ r, r < A 2 0 → A 4 r ≤ 999) (hF : ∀ r, r < A 2 0 → F r < 2 ^ A 3 r) : mCall X D 24 [.ref 10, .ref 2, .ref 5, .int (tN a)] (mN (hallA A sd ln L F H Pd T), RF, G, mSh) P = P (some (.int (tN (if 0 < ttN (A 4) F (A 6 a) (A 7 a) (A 9 a) (A 2 0) then 1 else 0)))) (mN (hallA A sd ln L (ttF (A 4) F (A 6 a) (A 7 a) (A 9 a) (A 2 0)) (up H a (ttN (A 4) F (A 6 a) (A 7 a) (A 9 a) (A 2 0))) (up Pd a (Pd a + psm (A 4) (ttT (A 4) F (A 6 a) (A 7 a) (A 9 a) (A 2 0) (T a)) (ttN (A 4) F (A 6 a) (A 7 a) (A 9 a) (A 2 0)))) (up T a (ttT (A 4) F (A 6 a) (A 7 a) (A 9 a) (A 2 0) (T a)))), RF, G, mSh) := by
  have e25 := fun P' => c_25 (X := X) (D := D - 1) (P := P') (G := G) (A := hallA A sd ln L F H Pd T) (f := 12) (t := 18 + a) (a := a) (by omega) (by omega) (by omega) ha
  simp (disch := omega) only [hr_o, hr_12, hr_t, hw_12, hw_t] at e25
  have e25 := fun P' => e25 P' h1 hs hm hpt hr hp (fun r hr => pw_4096 (hw r hr) (hF r hr))
  have hb := fun k hk => ttP_ok (pr := A 4) (F := F) (w := A 3) (sz := A 6 a) (most := A 7 a) (pt := A 9 a) (nr := A 2 0) (k := k) h1 hs hr hw hF hk
  have hN : ttN (A 4) F (A 6 a) (A 7 a) (A 9 a) (A 2 0) ≤ 6 := by
    rcases ttN_le (pr := A 4) (F := F) (sz := A 6 a) (most := A 7 a) (pt := A 9 a) (nr := A 2 0) with q | q <;> omega
  have hT : ∀ k, k < ttN (A 4) F (A 6 a) (A 7 a) (A 9 a) (A 2 0) → ttT (A 4) F (A 6 a) (A 7 a) (A 9 a) (A 2 0) (T a) k / 100 < 6 ∧ ttT (A 4) F (A 6 a) (A 7 a) (A 9 a) (A 2 0) (T a) k < 600 := by
    intro k hk
    obtain ⟨q1, q2, q3, q4⟩ := hb k hk
    unfold ttT
    rw [if_pos hk]
    exact ⟨by omega, q4⟩
  generalize ttN (A 4) F (A 6 a) (A 7 a) (A 9 a) (A 2 0) = cnt at *
  generalize ttT (A 4) F (A 6 a) (A 7 a) (A 9 a) (A 2 0) (T a) = t at *
  generalize ttF (A 4) F (A 6 a) (A 7 a) (A 9 a) (A 2 0) = F' at *
  rw [e_24 (by omega)]
  simp (disch := first | omega | assumption | exact mOk_int | exact mOk_null | exact mOk_ref | (simp (disch := omega) only [aF_ef, aF_nf, aU_ne, aU_eq, aU_ne2]; first | done | omega | assumption)) only [k_24_0, k_24_1, al_0, gq_0, gq_1, gq_2, gq_3, gq_4, il_3, al_1, al_2, ar_17, ar_57, ar_96, ar_135, ar_164, ar_40_0, ar_40_1, ar_40_2, q_callV4, q_iast, r_push, is_4, il_4, q_iald, ri_icge, r_dup2, r_idiv, r_iadd, ii_4, r_goto, ri_ifle, r_zret, kd_0, kd_1, kd_2, kd_3, kd_4, kd_5, ln_0, ln_1, ln_2, ln_3, ln_4, ln_5, Option.some.injEq, Value.int.injEq, Value.ref.injEq, Value.long.injEq, Prod.mk.injEq, exists_eq_left', exists_eq_left, true_and, and_true, mLk, Option.any_some, mC1, Value.category, Option.toList_some, Option.toList_none, List.nil_append, List.cons_append, List.length_cons, List.length_nil, ne_eq, Nat.reduceEqDiff, not_false_eq_true, reduceCtorEq, exists_and_left, exists_and_right, Nat.reduceLeDiff, Nat.reduceAdd, and_self, exists_eq, exists_eq_right, exists_const, eq_self, exists_eq', not_true_eq_false, false_implies, true_implies, implies_true, forall_const, or_true, true_or, false_or, or_false, and_false, false_and, if_true, if_false, ite_true, ite_false, mB, mOk_int, mOk_ref, mOk_null, mOk_long, Nat.reduceLT, Nat.reduceSub, Nat.reduceMul, Nat.reduceDiv, Nat.reduceMod, Classical.not_not, ↓reduceIte, Nat.zero_add, Nat.add_zero, tN_l, tN_m1, tN_n1, tN_n8, aF_ef, aF_nf, aF_U, tN_lt, tN_le, tN_inj, tN_add, tN_mul, tN_sub, tN_and, tN_or, tN_xor, tN_and31, tN_clamp, tN_in, tN_div, nm_rem, tN_shl, tN_shr, tN_b2, nd_lt, nd_nlt, nd_le, nd_nle, nd_eq, nd_ne, mN_at, mN_U, aU_ne, aU_eq, aU_ne2, hr_o, e25, hw_14]
  have := l_24 (X := X) (D := D - 1) (cap := (mSh.length + (mAl 24).fst, mSum mSh + (mAl 24).snd)) (P := P) (G := G) (A := A) (sd := sd) (ln := ln) (a := a) (cnt := cnt) (p0 := Pd a) (L := L) (F := F') (H := H) (Pd := Pd) (t := t) (T := T) ha hN hT cnt 0 (by omega)
  rw [show Pd a + psm (A 4) t 0 = Pd a from rfl, up_id] at this
  exact this

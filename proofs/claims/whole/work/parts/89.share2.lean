set_option maxRecDepth 20000
set_option maxHeartbeats 4000000
/-! MODEL: share; STEP -/
theorem fl4_212 {A : Nat → Nat → Nat} {F0 ord : Nat → Nat} {x : Nat} (hx : x < 12) : ∀ k, flA A 4 F0 ord k 212 (48 + x) = rnH (A 192) (A 190 0) (A 194) (A 195) (A 197) F0 ord (fun _ => 0) k x
  | 0 => by
    show emM A 4 212 (48 + x) = 0
    unfold emM
    rw [aF_ef, if_pos (by omega)]
  | k + 1 => by
    show mtA (flA A 4 F0 ord k) 4 (ord k) _ 212 (48 + x) = up (rnH (A 192) (A 190 0) (A 194) (A 195) (A 197) F0 ord (fun _ => 0) k) (ord k) _ x
    rw [mtA_212, flA_s]
    unfold up
    by_cases e : x = ord k
    · rw [if_pos (by omega), if_pos e]
    · rw [if_neg (by omega), if_neg e]
      exact fl4_212 hx k
def trF (A B : Nat → Nat → Nat) : Prop := (∀ c, c ≠ 185 → c ≠ 214 → c ≠ 211 → c ≠ 212 → c ≠ 213 → B c = A c) ∧ (∀ i, i < 288 → B 211 i = A 211 i) ∧ (∀ i, i < 48 → B 212 i = A 212 i) ∧ (∀ i, i < 288 → B 213 i = A 213 i)
theorem ml_143 {X : mX} {D : Nat} {cap : Nat × Nat} {G : mG} {A : Nat → Nat → Nat} {O F0 : Nat → Nat} {x : Nat} (hD : 6 ≤ D) (ok : okM A) (h6 : A 193 0 ≤ 6) (hx : x < A 193 0) (h0 : ∀ r, r < A 190 0 → F0 r = 1 <<< A 191 r - 1) : ∀ m t B u, t + m = fac (A 193 0) → trF A B → mOk u = true → ∃ B' : Nat → Nat → Nat, trF A B' ∧ ∀ P, mW (mCall X D) X cap 143 P 41 [.ref 185, .int (tN x), .int (tN (smN (fun t => if 0 < rnH (A 192) (A 190 0) (A 194) (A 195) (A 197) F0 (drS (idO (A 193 0) O) (A 193 0) t (A 193 0)).1 (fun _ => 0) (A 193 0) x then 1 else 0) t)), .int (tN (fac (A 193 0))), .int (tN t), u] [] (mN (B), RF, G, mSh) = P (some (.int (tN (smN (fun t => if 0 < rnH (A 192) (A 190 0) (A 194) (A 195) (A 197) F0 (drS (idO (A 193 0) O) (A 193 0) t (A 193 0)).1 (fun _ => 0) (A 193 0) x then 1 else 0) (fac (A 193 0)))))) (mN (B'), RF, G, mSh) := by
  have hf : fac (A 193 0) ≤ 720 := by
    have : ∀ n, n < 7 → fac n ≤ 720 := by decide
    exact this _ (by omega)
  intro m
  induction m with
  | zero =>
    intro t B u e tr gu
    obtain rfl : t = fac (A 193 0) := by omega
    refine ⟨B, tr, fun P => ?_⟩
    rw [kh_143_41]
    simp (disch := first | omega | assumption | exact mOk_int | exact mOk_null | exact mOk_ref | (simp (disch := omega) only [aF_ef, aF_nf, aU_ne, aU_eq, aU_ne2]; first | done | omega | assumption)) only [k_143_0, k_143_1, al_0, r_push, q_putI, il_1, q_callV1, ri_ifeq, gq_0, gq_1, gq_2, gq_3, gq_4, q_iald, ri_icle, r_iret, is_2, r_callS1, is_3, is_4, il_4, il_3, ri_icge, is_5, il_2, r_iadd, ri_ifle, r_goto, ii_4, kd_0, kd_1, kd_2, kd_3, kd_4, kd_5, ln_0, ln_1, ln_2, ln_3, ln_4, ln_5, Option.some.injEq, Value.int.injEq, Value.ref.injEq, Value.long.injEq, Prod.mk.injEq, exists_eq_left', exists_eq_left, true_and, and_true, mLk, Option.any_some, mC1, Value.category, Option.toList_some, Option.toList_none, List.nil_append, List.cons_append, List.length_cons, List.length_nil, ne_eq, Nat.reduceEqDiff, not_false_eq_true, reduceCtorEq, exists_and_left, exists_and_right, Nat.reduceLeDiff, Nat.reduceAdd, and_self, exists_eq, exists_eq_right, exists_const, eq_self, exists_eq', not_true_eq_false, false_implies, true_implies, implies_true, forall_const, or_true, true_or, false_or, or_false, and_false, false_and, if_true, if_false, ite_true, ite_false, mB, mOk_int, mOk_ref, mOk_null, mOk_long, Nat.reduceLT, Nat.reduceSub, Nat.reduceMul, Nat.reduceDiv, Nat.reduceMod, Classical.not_not, ↓reduceIte, Nat.zero_add, Nat.add_zero, Nat.add_sub_cancel, Bool.false_eq_true, tN_l, tN_m1, tN_n1, tN_n8, tN_dec, tN_dec8, aF_ef, aF_nf, aF_U, tN_lt, tN_le, tN_inj, tN_add, tN_mul, tN_sub, tN_and, tN_or, tN_xor, tN_and31, tN_clamp, tN_in, tN_div, nm_rem, tN_shl, tN_shr, tN_b2, nd_lt, nd_nlt, nd_le, nd_nle, nd_eq, nd_ne, mN_at, mN_U, aU_ne, aU_eq, aU_ne2]
  | succ m ih =>
    intro t B u e tr gu
    have htf : t < fac (A 193 0) := by omega
    obtain ⟨t1, t2, t3, t4⟩ := tr
    have b193 := t1 193 (by decide) (by decide) (by decide) (by decide) (by decide)
    have p := drS_PI (O := O) htf (A 193 0) (Nat.le_refl _)
    have e129 := fun P' => m_129 (X := X) (D := D) (P := P') (G := G) (A := B) (O := O) (t := t) (by omega) (by rw [b193]; omega) (by rw [b193]; exact htf)
    rw [b193] at e129
    generalize hord : (drS (idO (A 193 0) O) (A 193 0) t (A 193 0)).1 = ord at *
    generalize hC : aF B 214 (fun i => if i < A 193 0 then ord i else B 214 i) = C at e129
    have co : ∀ c, c ≠ 214 → C c = B c := fun c z => by rw [← hC, aF_nf z]
    have c214 : ∀ k, k < A 193 0 → C 214 k = ord k := fun k hk => by rw [← hC, aF_ef, if_pos hk]
    have cA : ∀ c, 190 ≤ c → c ≤ 197 → C c = A c := fun c z1 z2 => by rw [co c (by omega), t1 c (by omega) (by omega) (by omega) (by omega) (by omega)]
    have okC : okM C := okM_cg cA ok
    have e131 := fun P' => m_131 (X := X) (D := D) (P := P') (G := G) (A := C) (h := 4) (F0 := F0) (ord := ord) (by omega) (by omega) okC (by rw [cA 190 (by omega) (by omega), cA 191 (by omega) (by omega)]; exact h0) (by rw [cA 193 (by omega) (by omega)]; exact fun k hk => ⟨c214 k hk, p.2.2.1 k hk⟩) (by rw [cA 193 (by omega) (by omega)]; exact fun i k hi hk => p.2.2.2.2 i k hi hk)
    have h212 := fl4_212 (A := C) (F0 := F0) (ord := ord) (x := x) (by omega) (A 193 0)
    obtain ⟨f1, f2, f3⟩ := fl4 (A := C) (F0 := F0) (ord := ord) (A 193 0)
    have fo := fun c (z1 : c ≠ 211) (z2 : c ≠ 212) (z3 : c ≠ 213) => flA_o (A := C) (h := 4) (c := c) (F0 := F0) (ord := ord) z1 z2 z3 (A 193 0)
    rw [cA 190 (by omega) (by omega), cA 192 (by omega) (by omega), cA 194 (by omega) (by omega), cA 195 (by omega) (by omega), cA 197 (by omega) (by omega)] at h212
    rw [cA 193 (by omega) (by omega)] at e131
    generalize flA C 4 F0 ord (A 193 0) = E at *
    have trE : trF A E := ⟨fun c z1 z2 z3 z4 z5 => by rw [fo c z3 z4 z5, co c z2, t1 c z1 z2 z3 z4 z5], fun i hi => by rw [f1 i hi, co 211 (by decide), t2 i hi], fun i hi => by rw [f2 i hi, co 212 (by decide), t3 i hi], fun i hi => by rw [f3 i hi, co 213 (by decide), t4 i hi]⟩
    obtain ⟨B', g1, g2⟩ := ih (t + 1) E (.int (tN (rnS (C 192) (C 190 0) (C 194) (C 195) (C 197) F0 ord (A 193 0)))) (by omega) trE mOk_int
    refine ⟨B', g1, fun P => ?_⟩
    have g := g2 P
    have hH6 : rnH (A 192) (A 190 0) (A 194) (A 195) (A 197) F0 ord (fun _ => 0) (A 193 0) x ≤ 6 := by
      have : ∀ k, k ≤ A 193 0 → rnH (A 192) (A 190 0) (A 194) (A 195) (A 197) F0 ord (fun _ => 0) k x ≤ 6 := by
        intro k
        induction k with
        | zero => intro _; exact Nat.zero_le 6
        | succ k ihk =>
          intro hk
          have i2 := ihk (by omega)
          show up (rnH (A 192) (A 190 0) (A 194) (A 195) (A 197) F0 ord (fun _ => 0) k) (ord k) _ x ≤ 6
          unfold up
          split
          · obtain ⟨s1, s2, s3, s4⟩ := ok.2.2.2.2 (ord k) (p.2.2.1 k (by omega))
            rcases ttN_le (pr := A 192) (F := rnF (A 192) (A 190 0) (A 194) (A 195) (A 197) F0 ord k) (sz := A 194 (ord k)) (most := A 195 (ord k)) (pt := A 197 (ord k)) (nr := A 190 0) with q | q
            · unfold rnN; omega
            · unfold rnN; omega
          · exact i2
      exact this _ (Nat.le_refl _)
    rw [show smN (fun t => if 0 < rnH (A 192) (A 190 0) (A 194) (A 195) (A 197) F0 (drS (idO (A 193 0) O) (A 193 0) t (A 193 0)).1 (fun _ => 0) (A 193 0) x then 1 else 0) (t + 1) = smN (fun t => if 0 < rnH (A 192) (A 190 0) (A 194) (A 195) (A 197) F0 (drS (idO (A 193 0) O) (A 193 0) t (A 193 0)).1 (fun _ => 0) (A 193 0) x then 1 else 0) t + (if 0 < rnH (A 192) (A 190 0) (A 194) (A 195) (A 197) F0 (drS (idO (A 193 0) O) (A 193 0) t (A 193 0)).1 (fun _ => 0) (A 193 0) x then 1 else 0) from rfl, hord] at g
    generalize smN (fun t => if 0 < rnH (A 192) (A 190 0) (A 194) (A 195) (A 197) F0 (drS (idO (A 193 0) O) (A 193 0) t (A 193 0)).1 (fun _ => 0) (A 193 0) x then 1 else 0) t = c0 at *
    generalize smN (fun t => if 0 < rnH (A 192) (A 190 0) (A 194) (A 195) (A 197) F0 (drS (idO (A 193 0) O) (A 193 0) t (A 193 0)).1 (fun _ => 0) (A 193 0) x then 1 else 0) (fac (A 193 0)) = c1 at *
    generalize rnH (A 192) (A 190 0) (A 194) (A 195) (A 197) F0 ord (fun _ => 0) (A 193 0) x = hh at *
    rw [kh_143_41]
    by_cases c : 0 < hh
    · rw [if_pos c] at g
      simp (disch := first | omega | assumption | exact mOk_int | exact mOk_null | exact mOk_ref | (simp (disch := omega) only [aF_ef, aF_nf, aU_ne, aU_eq, aU_ne2]; first | done | omega | assumption)) only [k_143_0, k_143_1, al_0, r_push, q_putI, il_1, q_callV1, ri_ifeq, gq_0, gq_1, gq_2, gq_3, gq_4, q_iald, ri_icle, r_iret, is_2, r_callS1, is_3, is_4, il_4, il_3, ri_icge, is_5, il_2, r_iadd, ri_ifle, r_goto, ii_4, kd_0, kd_1, kd_2, kd_3, kd_4, kd_5, ln_0, ln_1, ln_2, ln_3, ln_4, ln_5, Option.some.injEq, Value.int.injEq, Value.ref.injEq, Value.long.injEq, Prod.mk.injEq, exists_eq_left', exists_eq_left, true_and, and_true, mLk, Option.any_some, mC1, Value.category, Option.toList_some, Option.toList_none, List.nil_append, List.cons_append, List.length_cons, List.length_nil, ne_eq, Nat.reduceEqDiff, not_false_eq_true, reduceCtorEq, exists_and_left, exists_and_right, Nat.reduceLeDiff, Nat.reduceAdd, and_self, exists_eq, exists_eq_right, exists_const, eq_self, exists_eq', not_true_eq_false, false_implies, true_implies, implies_true, forall_const, or_true, true_or, false_or, or_false, and_false, false_and, if_true, if_false, ite_true, ite_false, mB, mOk_int, mOk_ref, mOk_null, mOk_long, Nat.reduceLT, Nat.reduceSub, Nat.reduceMul, Nat.reduceDiv, Nat.reduceMod, Classical.not_not, ↓reduceIte, Nat.zero_add, Nat.add_zero, Nat.add_sub_cancel, Bool.false_eq_true, tN_l, tN_m1, tN_n1, tN_n8, tN_dec, tN_dec8, aF_ef, aF_nf, aF_U, tN_lt, tN_le, tN_inj, tN_add, tN_mul, tN_sub, tN_and, tN_or, tN_xor, tN_and31, tN_clamp, tN_in, tN_div, nm_rem, tN_shl, tN_shr, tN_b2, nd_lt, nd_nlt, nd_le, nd_nle, nd_eq, nd_ne, mN_at, mN_U, aU_ne, aU_eq, aU_ne2, e129, e131, h212, c]
      exact g
    · rw [if_neg c] at g
      simp (disch := first | omega | assumption | exact mOk_int | exact mOk_null | exact mOk_ref | (simp (disch := omega) only [aF_ef, aF_nf, aU_ne, aU_eq, aU_ne2]; first | done | omega | assumption)) only [k_143_0, k_143_1, al_0, r_push, q_putI, il_1, q_callV1, ri_ifeq, gq_0, gq_1, gq_2, gq_3, gq_4, q_iald, ri_icle, r_iret, is_2, r_callS1, is_3, is_4, il_4, il_3, ri_icge, is_5, il_2, r_iadd, ri_ifle, r_goto, ii_4, kd_0, kd_1, kd_2, kd_3, kd_4, kd_5, ln_0, ln_1, ln_2, ln_3, ln_4, ln_5, Option.some.injEq, Value.int.injEq, Value.ref.injEq, Value.long.injEq, Prod.mk.injEq, exists_eq_left', exists_eq_left, true_and, and_true, mLk, Option.any_some, mC1, Value.category, Option.toList_some, Option.toList_none, List.nil_append, List.cons_append, List.length_cons, List.length_nil, ne_eq, Nat.reduceEqDiff, not_false_eq_true, reduceCtorEq, exists_and_left, exists_and_right, Nat.reduceLeDiff, Nat.reduceAdd, and_self, exists_eq, exists_eq_right, exists_const, eq_self, exists_eq', not_true_eq_false, false_implies, true_implies, implies_true, forall_const, or_true, true_or, false_or, or_false, and_false, false_and, if_true, if_false, ite_true, ite_false, mB, mOk_int, mOk_ref, mOk_null, mOk_long, Nat.reduceLT, Nat.reduceSub, Nat.reduceMul, Nat.reduceDiv, Nat.reduceMod, Classical.not_not, ↓reduceIte, Nat.zero_add, Nat.add_zero, Nat.add_sub_cancel, Bool.false_eq_true, tN_l, tN_m1, tN_n1, tN_n8, tN_dec, tN_dec8, aF_ef, aF_nf, aF_U, tN_lt, tN_le, tN_inj, tN_add, tN_mul, tN_sub, tN_and, tN_or, tN_xor, tN_and31, tN_clamp, tN_in, tN_div, nm_rem, tN_shl, tN_shr, tN_b2, nd_lt, nd_nlt, nd_le, nd_nle, nd_eq, nd_ne, mN_at, mN_U, aU_ne, aU_eq, aU_ne2, e129, e131, h212, c]
      exact g
theorem m_143n {X : mX} {D : Nat} {P : mPost} {A : Nat → Nat → Nat} {G : mG} {x : Nat} (hD : 3 ≤ D) (hx : x < 4294967296) (hn : A 193 0 ≤ 12) (h : ¬ (x < A 193 0 ∧ A 193 0 ≤ 6)) : mCall X D 143 [.ref 185, .int (tN x)] (mN A, RF, G, mSh) P = P (some (.int (tN (4294967295)))) (mN (aU A 185 0 0), RF, G, mSh) := by
  have e144 := fun P' => m_144 (X := X) (D := D - 1) (P := P') (G := G) (A := aU A 185 0 0) (x := x) (by omega) hx (by rw [zA (by decide)]; exact hn)
  rw [zA (by decide)] at e144
  rw [e_143 (by omega)]
  by_cases c : x < A 193 0
  · simp (disch := first | omega | assumption | exact mOk_int | exact mOk_null | exact mOk_ref | (simp (disch := omega) only [aF_ef, aF_nf, aU_ne, aU_eq, aU_ne2]; first | done | omega | assumption)) only [k_143_0, k_143_1, al_0, r_push, q_putI, il_1, q_callV1, ri_ifeq, gq_0, gq_1, gq_2, gq_3, gq_4, q_iald, ri_icle, r_iret, is_2, r_callS1, is_3, is_4, il_4, il_3, ri_icge, is_5, il_2, r_iadd, ri_ifle, r_goto, ii_4, kd_0, kd_1, kd_2, kd_3, kd_4, kd_5, ln_0, ln_1, ln_2, ln_3, ln_4, ln_5, Option.some.injEq, Value.int.injEq, Value.ref.injEq, Value.long.injEq, Prod.mk.injEq, exists_eq_left', exists_eq_left, true_and, and_true, mLk, Option.any_some, mC1, Value.category, Option.toList_some, Option.toList_none, List.nil_append, List.cons_append, List.length_cons, List.length_nil, ne_eq, Nat.reduceEqDiff, not_false_eq_true, reduceCtorEq, exists_and_left, exists_and_right, Nat.reduceLeDiff, Nat.reduceAdd, and_self, exists_eq, exists_eq_right, exists_const, eq_self, exists_eq', not_true_eq_false, false_implies, true_implies, implies_true, forall_const, or_true, true_or, false_or, or_false, and_false, false_and, if_true, if_false, ite_true, ite_false, mB, mOk_int, mOk_ref, mOk_null, mOk_long, Nat.reduceLT, Nat.reduceSub, Nat.reduceMul, Nat.reduceDiv, Nat.reduceMod, Classical.not_not, ↓reduceIte, Nat.zero_add, Nat.add_zero, Nat.add_sub_cancel, Bool.false_eq_true, tN_l, tN_m1, tN_n1, tN_n8, tN_dec, tN_dec8, aF_ef, aF_nf, aF_U, tN_lt, tN_le, tN_inj, tN_add, tN_mul, tN_sub, tN_and, tN_or, tN_xor, tN_and31, tN_clamp, tN_in, tN_div, nm_rem, tN_shl, tN_shr, tN_b2, nd_lt, nd_nlt, nd_le, nd_nle, nd_eq, nd_ne, mN_at, mN_U, aU_ne, aU_eq, aU_ne2, e144, c]
  · simp (disch := first | omega | assumption | exact mOk_int | exact mOk_null | exact mOk_ref | (simp (disch := omega) only [aF_ef, aF_nf, aU_ne, aU_eq, aU_ne2]; first | done | omega | assumption)) only [k_143_0, k_143_1, al_0, r_push, q_putI, il_1, q_callV1, ri_ifeq, gq_0, gq_1, gq_2, gq_3, gq_4, q_iald, ri_icle, r_iret, is_2, r_callS1, is_3, is_4, il_4, il_3, ri_icge, is_5, il_2, r_iadd, ri_ifle, r_goto, ii_4, kd_0, kd_1, kd_2, kd_3, kd_4, kd_5, ln_0, ln_1, ln_2, ln_3, ln_4, ln_5, Option.some.injEq, Value.int.injEq, Value.ref.injEq, Value.long.injEq, Prod.mk.injEq, exists_eq_left', exists_eq_left, true_and, and_true, mLk, Option.any_some, mC1, Value.category, Option.toList_some, Option.toList_none, List.nil_append, List.cons_append, List.length_cons, List.length_nil, ne_eq, Nat.reduceEqDiff, not_false_eq_true, reduceCtorEq, exists_and_left, exists_and_right, Nat.reduceLeDiff, Nat.reduceAdd, and_self, exists_eq, exists_eq_right, exists_const, eq_self, exists_eq', not_true_eq_false, false_implies, true_implies, implies_true, forall_const, or_true, true_or, false_or, or_false, and_false, false_and, if_true, if_false, ite_true, ite_false, mB, mOk_int, mOk_ref, mOk_null, mOk_long, Nat.reduceLT, Nat.reduceSub, Nat.reduceMul, Nat.reduceDiv, Nat.reduceMod, Classical.not_not, ↓reduceIte, Nat.zero_add, Nat.add_zero, Nat.add_sub_cancel, Bool.false_eq_true, tN_l, tN_m1, tN_n1, tN_n8, tN_dec, tN_dec8, aF_ef, aF_nf, aF_U, tN_lt, tN_le, tN_inj, tN_add, tN_mul, tN_sub, tN_and, tN_or, tN_xor, tN_and31, tN_clamp, tN_in, tN_div, nm_rem, tN_shl, tN_shr, tN_b2, nd_lt, nd_nlt, nd_le, nd_nle, nd_eq, nd_ne, mN_at, mN_U, aU_ne, aU_eq, aU_ne2, e144, c]
theorem m_143 {X : mX} {D : Nat} {G : mG} {A : Nat → Nat → Nat} {O F0 : Nat → Nat} {x : Nat} (hD : 7 ≤ D) (ok : okM A) (h6 : A 193 0 ≤ 6) (hx : x < A 193 0) (h0 : ∀ r, r < A 190 0 → F0 r = 1 <<< A 191 r - 1) : ∃ B : Nat → Nat → Nat, trF A B ∧ ∀ P, mCall X D 143 [.ref 185, .int (tN x)] (mN A, RF, G, mSh) P = P (some (.int (tN (smN (fun t => if 0 < rnH (A 192) (A 190 0) (A 194) (A 195) (A 197) F0 (drS (idO (A 193 0) O) (A 193 0) t (A 193 0)).1 (fun _ => 0) (A 193 0) x then 1 else 0) (fac (A 193 0)))))) (mN (B), RF, G, mSh) := by
  obtain ⟨B, tr, l⟩ := ml_143 (X := X) (D := D - 1) (cap := (mSh.length + (mAl 143).fst, mSum mSh + (mAl 143).snd)) (G := G) (A := A) (O := O) (F0 := F0) (x := x) (by omega) ok h6 hx h0 (fac (A 193 0)) 0 (aU A 185 0 0) .null (by omega) ⟨fun c z1 _ _ _ _ => zA z1, fun i _ => by rw [zA (by decide)], fun i _ => by rw [zA (by decide)], fun i _ => by rw [zA (by decide)]⟩ mOk_null
  refine ⟨B, tr, fun P => ?_⟩
  have e144 := fun P' => m_144 (X := X) (D := D - 1) (P := P') (G := G) (A := aU A 185 0 0) (x := x) (by omega) (by omega) (by rw [zA (by decide)]; omega)
  rw [zA (by decide)] at e144
  have l2 := l P
  rw [e_143 (by omega)]
  generalize smN (fun t => if 0 < rnH (A 192) (A 190 0) (A 194) (A 195) (A 197) F0 (drS (idO (A 193 0) O) (A 193 0) t (A 193 0)).1 (fun _ => 0) (A 193 0) x then 1 else 0) (fac (A 193 0)) = c1 at *
  rw [show smN (fun t => if 0 < rnH (A 192) (A 190 0) (A 194) (A 195) (A 197) F0 (drS (idO (A 193 0) O) (A 193 0) t (A 193 0)).1 (fun _ => 0) (A 193 0) x then 1 else 0) 0 = 0 from rfl] at l2
  simp (disch := first | omega | assumption | exact mOk_int | exact mOk_null | exact mOk_ref | (simp (disch := omega) only [aF_ef, aF_nf, aU_ne, aU_eq, aU_ne2]; first | done | omega | assumption)) only [k_143_0, k_143_1, al_0, r_push, q_putI, il_1, q_callV1, ri_ifeq, gq_0, gq_1, gq_2, gq_3, gq_4, q_iald, ri_icle, r_iret, is_2, r_callS1, is_3, is_4, il_4, il_3, ri_icge, is_5, il_2, r_iadd, ri_ifle, r_goto, ii_4, kd_0, kd_1, kd_2, kd_3, kd_4, kd_5, ln_0, ln_1, ln_2, ln_3, ln_4, ln_5, Option.some.injEq, Value.int.injEq, Value.ref.injEq, Value.long.injEq, Prod.mk.injEq, exists_eq_left', exists_eq_left, true_and, and_true, mLk, Option.any_some, mC1, Value.category, Option.toList_some, Option.toList_none, List.nil_append, List.cons_append, List.length_cons, List.length_nil, ne_eq, Nat.reduceEqDiff, not_false_eq_true, reduceCtorEq, exists_and_left, exists_and_right, Nat.reduceLeDiff, Nat.reduceAdd, and_self, exists_eq, exists_eq_right, exists_const, eq_self, exists_eq', not_true_eq_false, false_implies, true_implies, implies_true, forall_const, or_true, true_or, false_or, or_false, and_false, false_and, if_true, if_false, ite_true, ite_false, mB, mOk_int, mOk_ref, mOk_null, mOk_long, Nat.reduceLT, Nat.reduceSub, Nat.reduceMul, Nat.reduceDiv, Nat.reduceMod, Classical.not_not, ↓reduceIte, Nat.zero_add, Nat.add_zero, Nat.add_sub_cancel, Bool.false_eq_true, tN_l, tN_m1, tN_n1, tN_n8, tN_dec, tN_dec8, aF_ef, aF_nf, aF_U, tN_lt, tN_le, tN_inj, tN_add, tN_mul, tN_sub, tN_and, tN_or, tN_xor, tN_and31, tN_clamp, tN_in, tN_div, nm_rem, tN_shl, tN_shr, tN_b2, nd_lt, nd_nlt, nd_le, nd_nle, nd_eq, nd_ne, mN_at, mN_U, aU_ne, aU_eq, aU_ne2, e144, hx, m_128]
  exact l2
section
variable {X : mX} {D : Nat} {G : mG} {A : Nat → Nat → Nat}
theorem shr_eq (h : Inv A) {x : Nat} (hx : x < A 193 0) (O : Nat → Nat) : gC (A 4) (A 2 0) (A 6) (A 7) (A 9) (A 5 0) (A 5 0) 0 (fun i => if i < A 2 0 then 1 <<< A 3 i - 1 else 0) x = smN (fun t => if 0 < rnH (A 192) (A 190 0) (A 194) (A 195) (A 197) (fun i => if i < A 190 0 then 1 <<< A 191 i - 1 else 0) (drS (idO (A 193 0) O) (A 193 0) t (A 193 0)).1 (fun _ => 0) (A 193 0) x then 1 else 0) (fac (A 193 0)) := by
  obtain ⟨r1, r2, r3⟩ := nR h
  obtain ⟨k1, k2, k3⟩ := nK h
  have eF : (fun i => if i < A 190 0 then 1 <<< A 3 i - 1 else 0) = (fun i => if i < A 190 0 then 1 <<< A 191 i - 1 else 0) := by
    funext i
    by_cases z : i < A 190 0
    · rw [if_pos z, if_pos z, (r3 i z).1]
    · rw [if_neg z, if_neg z]
  rw [r1, k1, eF, share_eq (O := O)]
  refine smN_cg _ (fun t ht => ?_)
  have p := drS_PI (O := O) ht (A 193 0) (Nat.le_refl _)
  rw [rnH_cgp (n := A 193 0) (fun r hr => (r3 r hr).2.1) (fun a ha => ⟨(k3 a ha).1, (k3 a ha).2.1, (k3 a ha).2.2.2.1⟩) p.2.2.1 (A 193 0) (Nat.le_refl _)]
theorem trF_cg {B : Nat → Nat → Nat} (h : Inv A) (tr : trF A B) : Inv B := Inv_tr h (fun c h1 _ _ _ h5 h6 h7 h8 => tr.1 c h1 h5 h6 h7 h8) tr.2.1 tr.2.2.1 tr.2.2.2
theorem Inv_shr {A' : Nat → Nat → Nat} (h : Inv A) (a1 : ∀ c, c < 161 ∨ 171 < c → A' c = A c) (a2 : A' 161 0 = 1) (a3 : ∀ x, x < 6 → A' 162 x = gC (A 4) (A 2 0) (A 6) (A 7) (A 9) (A 5 0) (A 5 0) 0 (fun i => if i < A 2 0 then 1 <<< A 3 i - 1 else 0) x) : Inv A' := by
  refine Inv_fr h (fun c z1 z2 => a1 c (by omega)) (a1 220 (by omega)) (fun c z1 z2 i _ _ => by rw [a1 c (by omega)]) ⟨by omega, fun _ => ?_⟩ (Rel_cg (fun j hj i hi => by rw [a1 (1 + j) (by omega)]) (fun c z1 z2 i hi => by rw [a1 c (by omega)]) h.1)
  rw [a1 2 (by omega), a1 3 (by omega), a1 4 (by omega), a1 5 (by omega), a1 6 (by omega), a1 7 (by omega), a1 9 (by omega)]
  exact a3
theorem st_5 {x : Nat} (hD : 20 ≤ D) (h : Inv A) (hx : x < 4294967296) : tdStp X D G A 39 [.ref 0, .int (tN x)] 143 [.ref 185, .int (tN x)] := by
  obtain ⟨r1, r2, r3⟩ := nR h
  obtain ⟨k1, k2, k3⟩ := nK h
  by_cases c : x < A 193 0 ∧ A 193 0 ≤ 6
  · obtain ⟨c1, c2⟩ := c
    -- the class: known, or searched for
    have cls : ∃ A1 : Nat → Nat → Nat, Inv A1 ∧ (∀ c, c < 161 ∨ 171 < c → A1 c = A c) ∧ A1 162 x = gC (A 4) (A 2 0) (A 6) (A 7) (A 9) (A 5 0) (A 5 0) 0 (fun i => if i < A 2 0 then 1 <<< A 3 i - 1 else 0) x ∧ ∀ P, mCall X D 39 [.ref 0, .int (tN x)] (mN A, RF, G, mSh) P = P (some (.int (tN (A1 162 x)))) (mN (A1), RF, G, mSh) := by
      have hs := Inv_sh h
      by_cases z : A 161 0 = 1
      · exact ⟨A, h, fun _ _ => rfl, hs.2 z x (by omega), fun P => c_39k (by omega) (by omega) (by omega) z⟩
      · have z0 : A 161 0 = 0 := by have := hs.1; omega
        obtain ⟨A', a1, a2, a3, a4⟩ := c_39 (X := X) (G := G) (D := D) (A := A) (a := x) (by omega) (nA h) (by omega) (by omega) z0
        exact ⟨A', Inv_shr h a1 a2 a3, a1, a3 x (by omega), a4⟩
    obtain ⟨A1, i1, i2, i3, i4⟩ := cls
    have m193 := i2 193 (by omega)
    have m190 := i2 190 (by omega)
    have m191 := i2 191 (by omega)
    obtain ⟨B, tr, mm⟩ := m_143 (X := X) (D := D) (G := G) (A := A1) (O := fun _ => 0) (F0 := fun i => if i < A 190 0 then 1 <<< A 191 i - 1 else 0) (x := x) (by omega) (nM' i1) (by rw [m193]; exact c2) (by rw [m193]; exact c1) (by rw [m190, m191]; exact fun r hr => if_pos hr)
    refine ⟨_, A1, B, G, i4, fun P => ?_, trF_cg i1 tr⟩
    rw [mm P, i3, shr_eq h c1 (fun _ => 0), m190, m193, i2 192 (by omega), i2 194 (by omega), i2 195 (by omega), i2 197 (by omega)]
  · exact ⟨_, A, aU A 185 0 0, G, fun P => c_39n (by omega) hx (by omega) (by rw [k1]; exact c), fun P => m_143n (by omega) hx k2 c, Inv_185 h⟩
end

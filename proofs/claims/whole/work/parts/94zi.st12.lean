set_option maxRecDepth 20000
set_option maxHeartbeats 4000000
/-! TERMS: the call on both sides -/
theorem rd_in {A : Nat → Nat → Nat} {w : Nat} : aU (aU (aU (aU A 172 4 0) 172 1 0) 172 2 w) 173 0 0 = rdW (aU A 173 0 0) 0 w 0 := by
  funext c i
  unfold aU rdW
  by_cases e : c = 172
  · subst e
    by_cases d1 : i = 1
    · subst d1; rfl
    · by_cases d2 : i = 2
      · subst d2; rfl
      · by_cases d4 : i = 4
        · subst d4; rfl
        · simp only [d1, d2, d4, and_false, if_false, if_true, show ¬ (172 : Nat) = 173 by decide, false_and]
  · simp only [e, false_and, if_false]
theorem sim_R {X : mX} {D D2 : Nat} {cap2 : Nat × Nat} {G : mG} {A : Nat → Nat → Nat} {b : Nat → Nat} {L : Nat} (hD : 10 ≤ D) (hD2 : 5 ≤ D2) (h39 : A 39 = b) (h38 : A 38 0 = L) (hL : L ≤ 300) (hb : ∀ x, x < L → b x < 256) : ∃ A' fk' fp' n' t', (∀ c, c < 172 ∨ c = 180 ∨ 184 < c → A' c = A c) ∧ fk' ≤ 3 ∧ (fk' = 0 → fp' = 4294967295) ∧ (∀ P, mCall X D 55 [.ref 172, .ref 38] (mN A, RF, G, mSh) P = P (some (.int (tN (if fk' = 0 then 1 else 0)))) (mN (rdW A' fk' fp' n'), RF, G, mSh)) ∧ ∀ B, mdO B b L 0 4294967295 0 → ∃ B', frB B B' ∧ ((fk' = 1 ∧ B' 185 36 = fp' ∧ ∀ P, mW (mCall X D2) X cap2 153 P 62 [.ref 185, .int (tN 1), .null, .null] [] (mN (mT (B) b L (tkS b L 0)), RF, moQ G b L (tkS b L 0), mSh) = mW (mCall X D2) X cap2 153 P 81 [.ref 185, .int (tN 0), .null, .null] [] (mN (mT (B') b L (t')), RF, moQ G b L (t'), mSh)) ∨ ∃ nl', mdO B' b L fk' fp' nl' ∧ drD A' B' fk' nl' ∧ A' 173 0 = min nl' 12 ∧ (12 < nl' → fk' ≠ 0) ∧ nl' ≤ 300 ∧ ∀ P, mW (mCall X D2) X cap2 153 P 62 [.ref 185, .int (tN 1), .null, .null] [] (mN (mT (B) b L (tkS b L 0)), RF, moQ G b L (tkS b L 0), mSh) = mW (mCall X D2) X cap2 153 P 81 [.ref 185, .int (tN 1), .null, .null] [] (mN (mT (B') b L (t')), RF, moQ G b L (t'), mSh)) := by
  obtain ⟨A1, N, f1, f2, f3⟩ := c_56 (X := X) (D := D - 1) (G := G) (A := A) (by omega) (by rw [h38]; exact hL) (by rw [h38, h39]; exact hb)
  rw [h39, h38] at f2
  have hT := TK_of hL hb f2
  have s0 : A1 184 0 = tkS b L 0 := (f2.2.2.2.2 0 (Nat.zero_le _)).2.2
  have g182 : aU A1 173 0 0 182 = A1 182 := aU_nf (by decide)
  have g183 : aU A1 173 0 0 183 = A1 183 := aU_nf (by decide)
  have g184 : aU A1 173 0 0 184 = A1 184 := aU_nf (by decide)
  have g181 : aU A1 173 0 0 181 = A1 181 := aU_nf (by decide)
  obtain ⟨A', fk', fp', n', x1, x2, x3, x4, x5, x6⟩ := sim_A (X := X) (D := D - 1) (D2 := D2) (cap := (mSh.length + (mAl 55).fst, mSum mSh + (mAl 55).snd)) (cap2 := cap2) (G := G) (b := b) (L := L) (N := N) (by omega) hD2 N 0 0 (aU A1 173 0 0) 0 4294967295 (by omega) (by omega) (by omega) (by rw [g182, g183, g184]; exact hT) (by rw [g181]; exact f2.2.1) (by rw [aU_eq]; rfl) (by omega) (fun _ => rfl) (fun q => absurd q (by omega))
  rw [g184, s0] at x6
  refine ⟨A', fk', fp', n', A1 184 n', fun c hc => ?_, x3, x4, fun P => ?_, fun B g1 => x6 B g1 (fun l q => absurd q (by omega))⟩
  · rw [x1 c (by omega), aU_nf (by omega), f1 c (by omega)]
  · rw [← x5 P, e_55 (by omega)]
    simp (disch := first | omega | assumption | exact mOk_int | exact mOk_null | exact mOk_ref | (simp (disch := omega) only [aF_ef, aF_nf, aU_ne, aU_eq, aU_ne2]; first | done | omega | assumption)) only [k_55_0, k_55_1, al_0, gq_0, gq_1, gq_2, gq_3, gq_4, al_1, q_callV1, r_push, q_putI, is_2, is_3, il_3, ri_icgt, il_2, ri_ifeq, q_callV0, ii_3, r_goto, q_getI, ri_ifne, r_zret, kd_0, kd_1, kd_2, kd_3, kd_4, kd_5, ln_0, ln_1, ln_2, ln_3, ln_4, ln_5, Option.some.injEq, Value.int.injEq, Value.ref.injEq, Value.long.injEq, Prod.mk.injEq, exists_eq_left', exists_eq_left, true_and, and_true, mLk, Option.any_some, mC1, Value.category, Option.toList_some, Option.toList_none, List.nil_append, List.cons_append, List.length_cons, List.length_nil, ne_eq, Nat.reduceEqDiff, not_false_eq_true, reduceCtorEq, exists_and_left, exists_and_right, Nat.reduceLeDiff, Nat.reduceAdd, and_self, exists_eq, exists_eq_right, exists_const, eq_self, exists_eq', not_true_eq_false, false_implies, true_implies, implies_true, forall_const, or_true, true_or, false_or, or_false, and_false, false_and, if_true, if_false, ite_true, ite_false, mB, mOk_int, mOk_ref, mOk_null, mOk_long, Nat.reduceLT, Nat.reduceSub, Nat.reduceMul, Nat.reduceDiv, Nat.reduceMod, Classical.not_not, ↓reduceIte, Nat.zero_add, Nat.add_zero, Nat.add_sub_cancel, Bool.false_eq_true, tN_l, tN_m1, tN_n1, tN_n8, tN_dec, tN_dec8, aF_ef, aF_nf, aF_U, tN_lt, tN_le, tN_inj, tN_add, tN_mul, tN_sub, tN_and, tN_or, tN_xor, tN_and31, tN_clamp, tN_in, tN_div, nm_rem, tN_shl, tN_shr, tN_b2, nd_lt, nd_nlt, nd_le, nd_nle, nd_eq, nd_ne, mN_at, mN_U, aU_ne, aU_eq, aU_ne2, f3]
    rw [rd_in]
theorem c_54 {X : mX} {D : Nat} {P : mPost} {G : mG} {A A' : Nat → Nat → Nat} {fk fp n : Nat} (hD : 2 ≤ D) (hf : fk ≤ 3) (e55 : ∀ P', mCall X (D - 1) 55 [.ref 172, .ref 38] (mN A, RF, G, mSh) P' = P' (some (.int (tN (if fk = 0 then 1 else 0)))) (mN (rdW A' fk fp n), RF, G, mSh)) : (¬ fk = 0 → mCall X D 54 [.ref 0] (mN A, RF, G, mSh) P = P (some (.int (tN (4294967295)))) (mN (aU (aU (aU (rdW A' fk fp n) 1 5 fk) 1 6 fp) 38 0 0), RF, G, mSh)) ∧ (fk = 0 → ∀ E, E = aU (aU (aU (rdW A' fk fp n) 1 5 fk) 1 6 fp) 38 0 0 → mCall X D 54 [.ref 0] (mN A, RF, G, mSh) P = P (some (.int (tN (A' 173 0)))) (mN (aF (aF (aF (aF (aF (aF (aU E 30 0 (E 173 0)) 31 (cpF 12 (E 174) (E 31))) 32 (cpF 12 (E 175) (E 32))) 33 (cpF 48 (E 176) (E 33))) 34 (cpF 48 (E 177) (E 34))) 35 (cpF 48 (E 178) (E 35))) 36 (cpF 48 (E 179) (E 36))), RF, G, mSh)) := by
  constructor
  · intro z
    rw [if_neg z] at e55
    rw [e_54 (by omega)]
    simp (disch := first | omega | assumption | exact mOk_int | exact mOk_null | exact mOk_ref | (simp (disch := omega) only [aF_ef, aF_nf, aU_ne, aU_eq, aU_ne2]; first | done | omega | assumption)) only [k_54_0, al_0, gq_0, gq_1, gq_2, gq_3, gq_4, q_callV1, is_1, q_getI, q_putI, r_push, il_1, ri_ifne, r_iret, kd_0, kd_1, kd_2, kd_3, kd_4, kd_5, ln_0, ln_1, ln_2, ln_3, ln_4, ln_5, Option.some.injEq, Value.int.injEq, Value.ref.injEq, Value.long.injEq, Prod.mk.injEq, exists_eq_left', exists_eq_left, true_and, and_true, mLk, Option.any_some, mC1, Value.category, Option.toList_some, Option.toList_none, List.nil_append, List.cons_append, List.length_cons, List.length_nil, ne_eq, Nat.reduceEqDiff, not_false_eq_true, reduceCtorEq, exists_and_left, exists_and_right, Nat.reduceLeDiff, Nat.reduceAdd, and_self, exists_eq, exists_eq_right, exists_const, eq_self, exists_eq', not_true_eq_false, false_implies, true_implies, implies_true, forall_const, or_true, true_or, false_or, or_false, and_false, false_and, if_true, if_false, ite_true, ite_false, mB, mOk_int, mOk_ref, mOk_null, mOk_long, Nat.reduceLT, Nat.reduceSub, Nat.reduceMul, Nat.reduceDiv, Nat.reduceMod, Classical.not_not, ↓reduceIte, Nat.zero_add, Nat.add_zero, Nat.add_sub_cancel, Bool.false_eq_true, tN_l, tN_m1, tN_n1, tN_n8, tN_dec, tN_dec8, aF_ef, aF_nf, aF_U, tN_lt, tN_le, tN_inj, tN_add, tN_mul, tN_sub, tN_and, tN_or, tN_xor, tN_and31, tN_clamp, tN_in, tN_div, nm_rem, tN_shl, tN_shr, tN_b2, nd_lt, nd_nlt, nd_le, nd_nle, nd_eq, nd_ne, mN_at, mN_U, aU_ne, aU_eq, aU_ne2, e55, rq_1, rq_2]
  · intro z E hE
    subst z
    have e89 := fun P' => c_89_d (X := X) (D := D - 1) (P := P') (G := G) (A := E) (by omega)
    have q30 : ∀ F, F = aF (aF (aF (aF (aF (aF (aU E 30 0 (E 173 0)) 31 (cpF 12 (E 174) (E 31))) 32 (cpF 12 (E 175) (E 32))) 33 (cpF 48 (E 176) (E 33))) 34 (cpF 48 (E 177) (E 34))) 35 (cpF 48 (E 178) (E 35))) 36 (cpF 48 (E 179) (E 36)) → F 30 0 = A' 173 0 := by
      intro F hF
      rw [hF, aF_ne (by decide), aF_ne (by decide), aF_ne (by decide), aF_ne (by decide), aF_ne (by decide), aF_ne (by decide), aU_eq, hE, aU_ne (by decide), aU_ne (by decide), aU_ne (by decide), rq_o (by decide)]
    have q := q30 _ rfl
    generalize aF (aF (aF (aF (aF (aF (aU E 30 0 (E 173 0)) 31 (cpF 12 (E 174) (E 31))) 32 (cpF 12 (E 175) (E 32))) 33 (cpF 48 (E 176) (E 33))) 34 (cpF 48 (E 177) (E 34))) 35 (cpF 48 (E 178) (E 35))) 36 (cpF 48 (E 179) (E 36)) = F at *
    rw [hE] at e89
    rw [e_54 (by omega)]
    simp (disch := first | omega | assumption | exact mOk_int | exact mOk_null | exact mOk_ref | (simp (disch := omega) only [aF_ef, aF_nf, aU_ne, aU_eq, aU_ne2]; first | done | omega | assumption)) only [k_54_0, al_0, gq_0, gq_1, gq_2, gq_3, gq_4, q_callV1, is_1, q_getI, q_putI, r_push, il_1, ri_ifne, r_iret, kd_0, kd_1, kd_2, kd_3, kd_4, kd_5, ln_0, ln_1, ln_2, ln_3, ln_4, ln_5, Option.some.injEq, Value.int.injEq, Value.ref.injEq, Value.long.injEq, Prod.mk.injEq, exists_eq_left', exists_eq_left, true_and, and_true, mLk, Option.any_some, mC1, Value.category, Option.toList_some, Option.toList_none, List.nil_append, List.cons_append, List.length_cons, List.length_nil, ne_eq, Nat.reduceEqDiff, not_false_eq_true, reduceCtorEq, exists_and_left, exists_and_right, Nat.reduceLeDiff, Nat.reduceAdd, and_self, exists_eq, exists_eq_right, exists_const, eq_self, exists_eq', not_true_eq_false, false_implies, true_implies, implies_true, forall_const, or_true, true_or, false_or, or_false, and_false, false_and, if_true, if_false, ite_true, ite_false, mB, mOk_int, mOk_ref, mOk_null, mOk_long, Nat.reduceLT, Nat.reduceSub, Nat.reduceMul, Nat.reduceDiv, Nat.reduceMod, Classical.not_not, ↓reduceIte, Nat.zero_add, Nat.add_zero, Nat.add_sub_cancel, Bool.false_eq_true, tN_l, tN_m1, tN_n1, tN_n8, tN_dec, tN_dec8, aF_ef, aF_nf, aF_U, tN_lt, tN_le, tN_inj, tN_add, tN_mul, tN_sub, tN_and, tN_or, tN_xor, tN_and31, tN_clamp, tN_in, tN_div, nm_rem, tN_shl, tN_shr, tN_b2, nd_lt, nd_nlt, nd_le, nd_nle, nd_eq, nd_ne, mN_at, mN_U, aU_ne, aU_eq, aU_ne2, e55, e89, rq_1, rq_2, q]
def mm0 (B : Nat → Nat → Nat) (L : Nat) : Nat → Nat → Nat := aU (aU (aU (aU (aU (aU (aU (aU (aU B 185 0 0) 185 31 L) 187 0 0) 188 0 0) 189 0 4294967295) 185 30 0) 185 36 4294967295) 185 37 0) 185 39 0
section
variable {B : Nat → Nat → Nat} {L : Nat}
theorem mm0_o {c : Nat} (h1 : c ≠ 185) (h2 : c ≠ 187) (h3 : c ≠ 188) (h4 : c ≠ 189) : mm0 B L c = B c := by
  unfold mm0
  rw [aU_nf h1, aU_nf h1, aU_nf h1, aU_nf h1, aU_nf h4, aU_nf h3, aU_nf h2, aU_nf h1, aU_nf h1]
theorem mm0_31 : mm0 B L 185 31 = L := by
  unfold mm0
  rw [aU_ne2 (by decide), aU_ne2 (by decide), aU_ne2 (by decide), aU_ne2 (by decide), aU_ne (by decide), aU_ne (by decide), aU_ne (by decide), aU_eq]
theorem mm0_30 : mm0 B L 185 30 = 0 := by
  unfold mm0
  rw [aU_ne2 (by decide), aU_ne2 (by decide), aU_ne2 (by decide), aU_eq]
theorem mm0_37 : mm0 B L 185 37 = 0 := by
  unfold mm0
  rw [aU_ne2 (by decide), aU_eq]
theorem mm0_39 : mm0 B L 185 39 = 0 := by
  unfold mm0
  rw [aU_eq]
theorem mm0_7 {i : Nat} : mm0 B L 187 i = if i = 0 then 0 else B 187 i := by
  unfold mm0
  rw [aU_ne (by decide), aU_ne (by decide), aU_ne (by decide), aU_ne (by decide), aU_ne (by decide), aU_ne (by decide), aU_if, aU_ne (by decide), aU_ne (by decide)]
theorem mm0_8 {i : Nat} : mm0 B L 188 i = if i = 0 then 0 else B 188 i := by
  unfold mm0
  rw [aU_ne (by decide), aU_ne (by decide), aU_ne (by decide), aU_ne (by decide), aU_ne (by decide), aU_if, aU_ne (by decide), aU_ne (by decide), aU_ne (by decide)]
theorem mm0_9 {i : Nat} : mm0 B L 189 i = if i = 0 then 4294967295 else B 189 i := by
  unfold mm0
  rw [aU_ne (by decide), aU_ne (by decide), aU_ne (by decide), aU_ne (by decide), aU_if, aU_ne (by decide), aU_ne (by decide), aU_ne (by decide), aU_ne (by decide)]
theorem mo_id {C : Nat → Nat → Nat} (h : C 185 30 = 0) : moW C 0 (C 185 32) (C 185 33) (C 185 34) = C := by
  funext c i
  unfold moW
  by_cases e : c = 185
  · subst e
    rw [if_pos rfl]
    by_cases d0 : i = 30
    · rw [if_pos d0, d0, h]
    · rw [if_neg d0]
      by_cases d2 : i = 32
      · rw [if_pos d2, d2]
      · rw [if_neg d2]
        by_cases d3 : i = 33
        · rw [if_pos d3, d3]
        · rw [if_neg d3]
          by_cases d4 : i = 34
          · rw [if_pos d4, d4]
          · rw [if_neg d4]
  · rw [if_neg e]
theorem mm_0 {X : mX} {D : Nat} {P : mPost} {G : mG} {b : Nat → Nat} (hD : 3 ≤ D) (hL : B 187 0 = L) (hL3 : L ≤ 300) (hb : ∀ i, i < L → b i < 256 ∧ B 186 i = sb (b i)) : mCall X D 153 [.ref 185] (mN (B), RF, G, mSh) P = mW (mCall X (D - 1)) X (mSh.length + (mAl 153).fst, mSum mSh + (mAl 153).snd) 153 P 62 [.ref 185, .int (tN 1), .null, .null] [] (mN (mT (mm0 B L) b L (tkS b L 0)), RF, moQ G b L (tkS b L 0), mSh) := by
  have q186 : mm0 B L 186 = B 186 := mm0_o (by decide) (by decide) (by decide) (by decide)
  have e154 : ∀ P', mCall X (D - 1) 154 [.ref 185] (mN (mm0 B L), RF, G, mSh) P' = P' none (mN (mT (mm0 B L) b L (tkS b L 0)), RF, moQ G b L (tkS b L 0), mSh) := fun P' => by
    have e := m_154 (X := X) (D := D - 1) (P := P') (G := G) (A := mm0 B L) (b := b) (a := 0) (g := mm0 B L 185 32) (s := mm0 B L 185 33) (v := mm0 B L 185 34) (by omega) (by rw [mm0_31]; exact hL3) (by omega) (by rw [mm0_31, q186]; exact hb)
    rw [mo_id mm0_30, mm0_31] at e
    exact e
  have e154' : ∀ C, C = mm0 B L → ∀ P', mCall X (D - 1) 154 [.ref 185] (mN (C), RF, G, mSh) P' = P' none (mN (mT (mm0 B L) b L (tkS b L 0)), RF, moQ G b L (tkS b L 0), mSh) := fun C hC P' => by rw [hC]; exact e154 P'
  have e := e154' _ (show aU (aU (aU (aU (aU (aU (aU (aU (aU B 185 0 0) 185 31 L) 187 0 0) 188 0 0) 189 0 4294967295) 185 30 0) 185 36 4294967295) 185 37 0) 185 39 0 = mm0 B L from rfl)
  clear e154 e154'
  generalize mm0 B L = C at *
  rw [e_153 (by omega)]
  simp (disch := first | omega | assumption | exact mOk_int | exact mOk_null | exact mOk_ref | (simp (disch := omega) only [aF_ef, aF_nf, aU_ne, aU_eq, aU_ne2]; first | done | omega | assumption)) only [kc_153_0_62, al_0, r_push, q_putI, gq_0, gq_1, gq_2, gq_3, gq_4, q_iald, q_iast, is_1, q_callV0, il_1, ri_ifeq, q_getI, r_goto, ri_ifle, r_iret, is_2, il_2, ri_icge, r_imul, is_3, il_3, r_iadd, ii_3, ii_2, kd_0, kd_1, kd_2, kd_3, kd_4, kd_5, ln_0, ln_1, ln_2, ln_3, ln_4, ln_5, Option.some.injEq, Value.int.injEq, Value.ref.injEq, Value.long.injEq, Prod.mk.injEq, exists_eq_left', exists_eq_left, true_and, and_true, mLk, Option.any_some, mC1, Value.category, Option.toList_some, Option.toList_none, List.nil_append, List.cons_append, List.length_cons, List.length_nil, ne_eq, Nat.reduceEqDiff, not_false_eq_true, reduceCtorEq, exists_and_left, exists_and_right, Nat.reduceLeDiff, Nat.reduceAdd, and_self, exists_eq, exists_eq_right, exists_const, eq_self, exists_eq', not_true_eq_false, false_implies, true_implies, implies_true, forall_const, or_true, true_or, false_or, or_false, and_false, false_and, if_true, if_false, ite_true, ite_false, mB, mOk_int, mOk_ref, mOk_null, mOk_long, Nat.reduceLT, Nat.reduceSub, Nat.reduceMul, Nat.reduceDiv, Nat.reduceMod, Classical.not_not, ↓reduceIte, Nat.zero_add, Nat.add_zero, Nat.add_sub_cancel, Bool.false_eq_true, tN_l, tN_m1, tN_n1, tN_n8, tN_dec, tN_dec8, aF_ef, aF_nf, aF_U, tN_lt, tN_le, tN_inj, tN_add, tN_mul, tN_sub, tN_and, tN_or, tN_xor, tN_and31, tN_clamp, tN_in, tN_div, nm_rem, tN_shl, tN_shr, tN_b2, nd_lt, nd_nlt, nd_le, nd_nle, nd_eq, nd_ne, mN_at, mN_U, aU_ne, aU_eq, aU_ne2, hL, e]
end
